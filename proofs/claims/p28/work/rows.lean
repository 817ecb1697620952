section
-- ===== PART A: goes FIRST, ahead of the names: the tables' words, and 'selects' of the private methods out of them =====
/-- a private method of a class that the tables say can be made, by its rows of tables_1 -/
def lw_okq (q : MethodName × Nat) : Prop := (q.1.cls ≠ "java/lang/invoke/MethodHandle" ∧ q.1.cls ≠ "java/lang/invoke/VarHandle") ∧ Cond.instantiable q.1.cls q.2 ∈ tables_1 ∧ Cond.privateMethod q.1 ∈ tables_1 ∧ Cond.instanceMethod q.1 ∈ tables_1
theorem lw_p0 : lw_okq (⟨"TicketJournal", "knownNumber", "(I)I"⟩, 5) := ⟨⟨by decide +kernel, by decide +kernel⟩, List.mem_of_getElem? (i := 11) (by decide +kernel), List.mem_of_getElem? (i := 187) (by decide +kernel), List.mem_of_getElem? (i := 188) (by decide +kernel)⟩
theorem lw_p1 : lw_okq (⟨"TicketJournal$Past", "stateAt", "(I)LTicketJournal$Printer;"⟩, 3) := ⟨⟨by decide +kernel, by decide +kernel⟩, List.mem_of_getElem? (i := 126) (by decide +kernel), List.mem_of_getElem? (i := 225) (by decide +kernel), List.mem_of_getElem? (i := 226) (by decide +kernel)⟩
theorem lw_p2 : lw_okq (⟨"TicketJournal$Printer", "writeRecord", "(III)Z"⟩, 7) := ⟨⟨by decide +kernel, by decide +kernel⟩, List.mem_of_getElem? (i := 19) (by decide +kernel), List.mem_of_getElem? (i := 249) (by decide +kernel), List.mem_of_getElem? (i := 250) (by decide +kernel)⟩
theorem lw_p3 : lw_okq (⟨"TicketJournal$Printer", "beginBlock", "()Z"⟩, 7) := ⟨⟨by decide +kernel, by decide +kernel⟩, List.mem_of_getElem? (i := 19) (by decide +kernel), List.mem_of_getElem? (i := 253) (by decide +kernel), List.mem_of_getElem? (i := 254) (by decide +kernel)⟩
theorem lw_p4 : lw_okq (⟨"TicketJournal$Flash", "spendOperation", "()Z"⟩, 4) := ⟨⟨by decide +kernel, by decide +kernel⟩, List.mem_of_getElem? (i := 25) (by decide +kernel), List.mem_of_getElem? (i := 269) (by decide +kernel), List.mem_of_getElem? (i := 270) (by decide +kernel)⟩
theorem lw_p5 : lw_okq (⟨"TicketJournal$Printer", "fillPlace", "(III)Z"⟩, 7) := ⟨⟨by decide +kernel, by decide +kernel⟩, List.mem_of_getElem? (i := 19) (by decide +kernel), List.mem_of_getElem? (i := 277) (by decide +kernel), List.mem_of_getElem? (i := 278) (by decide +kernel)⟩
theorem lw_p6 : lw_okq (⟨"TicketJournal$Flash", "isEmpty", "(II)Z"⟩, 4) := ⟨⟨by decide +kernel, by decide +kernel⟩, List.mem_of_getElem? (i := 25) (by decide +kernel), List.mem_of_getElem? (i := 309) (by decide +kernel), List.mem_of_getElem? (i := 310) (by decide +kernel)⟩
theorem lw_p7 : lw_okq (⟨"TicketJournal$Flash", "isFollowed", "(I)Z"⟩, 4) := ⟨⟨by decide +kernel, by decide +kernel⟩, List.mem_of_getElem? (i := 25) (by decide +kernel), List.mem_of_getElem? (i := 410) (by decide +kernel), List.mem_of_getElem? (i := 411) (by decide +kernel)⟩
theorem lw_p8 : lw_okq (⟨"TicketJournal", "isImage", "(I)Z"⟩, 5) := ⟨⟨by decide +kernel, by decide +kernel⟩, List.mem_of_getElem? (i := 11) (by decide +kernel), List.mem_of_getElem? (i := 434) (by decide +kernel), List.mem_of_getElem? (i := 435) (by decide +kernel)⟩
theorem lw_p9 : lw_okq (⟨"TicketJournal$Journal", "add", "(LTicketJournal$Flash;II)V"⟩, 2) := ⟨⟨by decide +kernel, by decide +kernel⟩, List.mem_of_getElem? (i := 113) (by decide +kernel), List.mem_of_getElem? (i := 462) (by decide +kernel), List.mem_of_getElem? (i := 463) (by decide +kernel)⟩
theorem lw_p10 : lw_okq (⟨"TicketJournal$Journal", "setDetail", "(II)V"⟩, 2) := ⟨⟨by decide +kernel, by decide +kernel⟩, List.mem_of_getElem? (i := 113) (by decide +kernel), List.mem_of_getElem? (i := 467) (by decide +kernel), List.mem_of_getElem? (i := 468) (by decide +kernel)⟩
theorem lw_p11 : lw_okq (⟨"TicketJournal", "trySale", "(II)V"⟩, 5) := ⟨⟨by decide +kernel, by decide +kernel⟩, List.mem_of_getElem? (i := 11) (by decide +kernel), List.mem_of_getElem? (i := 526) (by decide +kernel), List.mem_of_getElem? (i := 527) (by decide +kernel)⟩
def lw_privs_1 : List (MethodName × Nat) := [(⟨"TicketJournal", "knownNumber", "(I)I"⟩, 5), (⟨"TicketJournal$Past", "stateAt", "(I)LTicketJournal$Printer;"⟩, 3), (⟨"TicketJournal$Printer", "writeRecord", "(III)Z"⟩, 7), (⟨"TicketJournal$Printer", "beginBlock", "()Z"⟩, 7), (⟨"TicketJournal$Flash", "spendOperation", "()Z"⟩, 4), (⟨"TicketJournal$Printer", "fillPlace", "(III)Z"⟩, 7), (⟨"TicketJournal$Flash", "isEmpty", "(II)Z"⟩, 4), (⟨"TicketJournal$Flash", "isFollowed", "(I)Z"⟩, 4), (⟨"TicketJournal", "isImage", "(I)Z"⟩, 5), (⟨"TicketJournal$Journal", "add", "(LTicketJournal$Flash;II)V"⟩, 2), (⟨"TicketJournal$Journal", "setDetail", "(II)V"⟩, 2), (⟨"TicketJournal", "trySale", "(II)V"⟩, 5)]
theorem lw_r1 : ∀ q ∈ lw_privs_1, lw_okq q := List.forall_mem_cons.mpr ⟨lw_p0, List.forall_mem_cons.mpr ⟨lw_p1, List.forall_mem_cons.mpr ⟨lw_p2, List.forall_mem_cons.mpr ⟨lw_p3, List.forall_mem_cons.mpr ⟨lw_p4, List.forall_mem_cons.mpr ⟨lw_p5, List.forall_mem_cons.mpr ⟨lw_p6, List.forall_mem_cons.mpr ⟨lw_p7, List.forall_mem_cons.mpr ⟨lw_p8, List.forall_mem_cons.mpr ⟨lw_p9, List.forall_mem_cons.mpr ⟨lw_p10, List.forall_mem_cons.mpr ⟨lw_p11, fun _ h => absurd h List.not_mem_nil⟩⟩⟩⟩⟩⟩⟩⟩⟩⟩⟩⟩
def lw_privs : List (MethodName × Nat) := lw_privs_1
def lw_tbl : List Cond := k2_sels lw_privs ++ tables_1
theorem lw_privs_ok : ∀ q ∈ lw_privs, lw_okq q := lw_r1
/-- the streams that the claim lets the run draw from -/
abbrev lw_cs : List Choice := [Jvm.Choice.named "NaN.bits"]
theorem lw_bits : nanBits ∈ lw_cs := by first | decide | exact List.mem_cons_self | simp [lw_cs, nanBits]
-- ===== end of PART A; then your names; then what follows =====
def RX0 : String := "TicketJournal$Flash"
def TX0 : u_T := fun k => match k with
  | 0 => ("TicketJournal$Flash", "words", "[I", true)
  | 1 => ("TicketJournal$Flash", "erasures", "[I", true)
  | 2 => ("TicketJournal$Flash", "done", "I", false)
  | _ => ("TicketJournal$Flash", "left", "I", false)
def tyX0 : Nat → FieldType := fun k => match k with
  | 0 => .array .int
  | 1 => .array .int
  | 2 => .int
  | _ => .int
abbrev wsX00 : List Cond := u_ws RX0 TX0 4
theorem nmX0 : ∀ a, a < 4 → ∀ b, b < 4 → a ≠ b → (TX0 a).2.1 ≠ (TX0 b).2.1 := by decide +kernel
theorem tyX0_ok : ∀ k, k < 4 → parseFieldDescriptor (TX0 k).2.2.1 = some (tyX0 k) := by decide +kernel
abbrev cX0_init : ByteArray := prog_2_method_1_code
def yX0_init : MethodName := ⟨RX0, "<init>", "()V"⟩
abbrev cX0_copyFrom : ByteArray := prog_2_method_2_code
def yX0_copyFrom : MethodName := ⟨RX0, "copyFrom", "(LTicketJournal$Flash;)V"⟩
abbrev cX0_read : ByteArray := prog_2_method_3_code
def yX0_read : MethodName := ⟨RX0, "read", "(II)I"⟩
abbrev cX0_write : ByteArray := prog_2_method_4_code
def yX0_write : MethodName := ⟨RX0, "write", "(III)Z"⟩
abbrev cX0_erase : ByteArray := prog_2_method_5_code
def yX0_erase : MethodName := ⟨RX0, "erase", "(I)Z"⟩
abbrev cX0_spendOperation : ByteArray := prog_2_method_6_code
def yX0_spendOperation : MethodName := ⟨RX0, "spendOperation", "()Z"⟩
abbrev cX0_erasuresOf : ByteArray := prog_2_method_7_code
def yX0_erasuresOf : MethodName := ⟨RX0, "erasuresOf", "(I)I"⟩
abbrev cX0_recordWord : ByteArray := prog_2_method_8_code
def yX0_recordWord : MethodName := ⟨RX0, "recordWord", "(III)I"⟩
abbrev cX0_isWhole : ByteArray := prog_2_method_9_code
def yX0_isWhole : MethodName := ⟨RX0, "isWhole", "(I)Z"⟩
abbrev cX0_stateOf : ByteArray := prog_2_method_10_code
def yX0_stateOf : MethodName := ⟨RX0, "stateOf", "(II)I"⟩
abbrev cX0_isEmpty : ByteArray := prog_2_method_11_code
def yX0_isEmpty : MethodName := ⟨RX0, "isEmpty", "(II)Z"⟩
abbrev cX0_tallyIn : ByteArray := prog_2_method_12_code
def yX0_tallyIn : MethodName := ⟨RX0, "tallyIn", "(II)I"⟩
abbrev cX0_tally : ByteArray := prog_2_method_13_code
def yX0_tally : MethodName := ⟨RX0, "tally", "(I)I"⟩
abbrev cX0_newestBlock : ByteArray := prog_2_method_14_code
def yX0_newestBlock : MethodName := ⟨RX0, "newestBlock", "()I"⟩
abbrev cX0_isFollowed : ByteArray := prog_2_method_15_code
def yX0_isFollowed : MethodName := ⟨RX0, "isFollowed", "(I)Z"⟩
abbrev cX0_nextPlaceIn : ByteArray := prog_2_method_16_code
def yX0_nextPlaceIn : MethodName := ⟨RX0, "nextPlaceIn", "(I)I"⟩
def RX1 : String := "TicketJournal$Image"
def TX1 : u_T := fun k => match k with
  | 0 => ("TicketJournal$Image", "state", "LTicketJournal$Printer;", true)
  | _ => ("TicketJournal$Image", "filled", "Z", false)
def tyX1 : Nat → FieldType := fun k => match k with
  | 0 => .object "TicketJournal$Printer"
  | _ => .boolean
abbrev wsX10 : List Cond := u_ws RX1 TX1 2
theorem nmX1 : ∀ a, a < 2 → ∀ b, b < 2 → a ≠ b → (TX1 a).2.1 ≠ (TX1 b).2.1 := by decide +kernel
theorem tyX1_ok : ∀ k, k < 2 → parseFieldDescriptor (TX1 k).2.2.1 = some (tyX1 k) := by decide +kernel
abbrev cX1_init : ByteArray := prog_3_method_1_code
def yX1_init : MethodName := ⟨RX1, "<init>", "()V"⟩
abbrev cX1_store : ByteArray := prog_3_method_2_code
def yX1_store : MethodName := ⟨RX1, "store", "(LTicketJournal$Printer;)V"⟩
def RX2 : String := "TicketJournal$Journal"
def TX2 : u_T := fun k => match k with
  | 0 => ("TicketJournal$Journal", "details", "[I", true)
  | _ => ("TicketJournal$Journal", "count", "I", false)
def tyX2 : Nat → FieldType := fun k => match k with
  | 0 => .array .int
  | _ => .int
abbrev wsX20 : List Cond := u_ws RX2 TX2 2
theorem nmX2 : ∀ a, a < 2 → ∀ b, b < 2 → a ≠ b → (TX2 a).2.1 ≠ (TX2 b).2.1 := by decide +kernel
theorem tyX2_ok : ∀ k, k < 2 → parseFieldDescriptor (TX2 k).2.2.1 = some (tyX2 k) := by decide +kernel
abbrev cX2_init : ByteArray := prog_4_method_1_code
def yX2_init : MethodName := ⟨RX2, "<init>", "()V"⟩
abbrev cX2_gather : ByteArray := prog_4_method_2_code
def yX2_gather : MethodName := ⟨RX2, "gather", "(LTicketJournal$Flash;)LTicketJournal$Journal;"⟩
abbrev cX2_add : ByteArray := prog_4_method_3_code
def yX2_add : MethodName := ⟨RX2, "add", "(LTicketJournal$Flash;II)V"⟩
abbrev cX2_setDetail : ByteArray := prog_4_method_4_code
def yX2_setDetail : MethodName := ⟨RX2, "setDetail", "(II)V"⟩
abbrev cX2_detail : ByteArray := prog_4_method_5_code
def yX2_detail : MethodName := ⟨RX2, "detail", "(II)I"⟩
abbrev cX2_countOf : ByteArray := prog_4_method_6_code
def yX2_countOf : MethodName := ⟨RX2, "countOf", "(I)I"⟩
abbrev cX2_pricesOf : ByteArray := prog_4_method_7_code
def yX2_pricesOf : MethodName := ⟨RX2, "pricesOf", "(II)I"⟩
def RX3 : String := "TicketJournal$Memory"
def TX3 : u_T := fun k => match k with
  | 0 => ("TicketJournal$Memory", "current", "I", false)
  | 1 => ("TicketJournal$Memory", "next", "I", false)
  | 2 => ("TicketJournal$Memory", "number", "I", false)
  | 3 => ("TicketJournal$Memory", "sum", "I", false)
  | 4 => ("TicketJournal$Memory", "tickets", "I", false)
  | _ => ("TicketJournal$Memory", "paper", "I", false)
def tyX3 : Nat → FieldType := fun k => match k with
  | 0 => .int
  | 1 => .int
  | 2 => .int
  | 3 => .int
  | 4 => .int
  | _ => .int
abbrev wsX30 : List Cond := u_ws RX3 TX3 6
theorem nmX3 : ∀ a, a < 6 → ∀ b, b < 6 → a ≠ b → (TX3 a).2.1 ≠ (TX3 b).2.1 := by decide +kernel
theorem tyX3_ok : ∀ k, k < 6 → parseFieldDescriptor (TX3 k).2.2.1 = some (tyX3 k) := by decide +kernel
abbrev cX3_init : ByteArray := prog_5_method_1_code
def yX3_init : MethodName := ⟨RX3, "<init>", "()V"⟩
abbrev cX3_copyFrom : ByteArray := prog_5_method_2_code
def yX3_copyFrom : MethodName := ⟨RX3, "copyFrom", "(LTicketJournal$Memory;)V"⟩
abbrev cX3_forget : ByteArray := prog_5_method_3_code
def yX3_forget : MethodName := ⟨RX3, "forget", "()V"⟩
abbrev cX3_recall : ByteArray := prog_5_method_4_code
def yX3_recall : MethodName := ⟨RX3, "recall", "(LTicketJournal$Flash;)V"⟩
abbrev cX3_learn : ByteArray := prog_5_method_5_code
def yX3_learn : MethodName := ⟨RX3, "learn", "(II)V"⟩
def RX4 : String := "TicketJournal$Past"
def TX4 : u_T := fun k => match k with
  | 0 => ("TicketJournal$Past", "states", "[LTicketJournal$Printer;", true)
  | 1 => ("TicketJournal$Past", "oldest", "I", false)
  | _ => ("TicketJournal$Past", "size", "I", false)
def tyX4 : Nat → FieldType := fun k => match k with
  | 0 => .array (.object "TicketJournal$Printer")
  | 1 => .int
  | _ => .int
abbrev wsX40 : List Cond := u_ws RX4 TX4 3
theorem nmX4 : ∀ a, a < 3 → ∀ b, b < 3 → a ≠ b → (TX4 a).2.1 ≠ (TX4 b).2.1 := by decide +kernel
theorem tyX4_ok : ∀ k, k < 3 → parseFieldDescriptor (TX4 k).2.2.1 = some (tyX4 k) := by decide +kernel
abbrev cX4_init : ByteArray := prog_6_method_1_code
def yX4_init : MethodName := ⟨RX4, "<init>", "()V"⟩
abbrev cX4_remember : ByteArray := prog_6_method_2_code
def yX4_remember : MethodName := ⟨RX4, "remember", "(LTicketJournal$Printer;)V"⟩
abbrev cX4_restore : ByteArray := prog_6_method_3_code
def yX4_restore : MethodName := ⟨RX4, "restore", "(LTicketJournal$Printer;)V"⟩
abbrev cX4_stateAt : ByteArray := prog_6_method_4_code
def yX4_stateAt : MethodName := ⟨RX4, "stateAt", "(I)LTicketJournal$Printer;"⟩
def RX5 : String := "TicketJournal$Printer"
def TX5 : u_T := fun k => match k with
  | 0 => ("TicketJournal$Printer", "flash", "LTicketJournal$Flash;", true)
  | 1 => ("TicketJournal$Printer", "memory", "LTicketJournal$Memory;", true)
  | 2 => ("TicketJournal$Printer", "prices", "[I", true)
  | 3 => ("TicketJournal$Printer", "on", "Z", false)
  | 4 => ("TicketJournal$Printer", "time", "I", false)
  | 5 => ("TicketJournal$Printer", "there", "I", false)
  | _ => ("TicketJournal$Printer", "printed", "I", false)
def tyX5 : Nat → FieldType := fun k => match k with
  | 0 => .object "TicketJournal$Flash"
  | 1 => .object "TicketJournal$Memory"
  | 2 => .array .int
  | 3 => .boolean
  | 4 => .int
  | 5 => .int
  | _ => .int
abbrev wsX50 : List Cond := u_ws RX5 TX5 7
theorem nmX5 : ∀ a, a < 7 → ∀ b, b < 7 → a ≠ b → (TX5 a).2.1 ≠ (TX5 b).2.1 := by decide +kernel
theorem tyX5_ok : ∀ k, k < 7 → parseFieldDescriptor (TX5 k).2.2.1 = some (tyX5 k) := by decide +kernel
abbrev cX5_init : ByteArray := prog_7_method_1_code
def yX5_init : MethodName := ⟨RX5, "<init>", "()V"⟩
abbrev cX5_copyFrom : ByteArray := prog_7_method_2_code
def yX5_copyFrom : MethodName := ⟨RX5, "copyFrom", "(LTicketJournal$Printer;)V"⟩
abbrev cX5_priceOf : ByteArray := prog_7_method_3_code
def yX5_priceOf : MethodName := ⟨RX5, "priceOf", "(I)I"⟩
abbrev cX5_changePrice : ByteArray := prog_7_method_4_code
def yX5_changePrice : MethodName := ⟨RX5, "changePrice", "(II)V"⟩
abbrev cX5_refusalOf : ByteArray := prog_7_method_5_code
def yX5_refusalOf : MethodName := ⟨RX5, "refusalOf", "(I)I"⟩
abbrev cX5_issueTicket : ByteArray := prog_7_method_6_code
def yX5_issueTicket : MethodName := ⟨RX5, "issueTicket", "(I)I"⟩
abbrev cX5_endsWithTicket : ByteArray := prog_7_method_7_code
def yX5_endsWithTicket : MethodName := ⟨RX5, "endsWithTicket", "()Z"⟩
abbrev cX5_cancelLatest : ByteArray := prog_7_method_8_code
def yX5_cancelLatest : MethodName := ⟨RX5, "cancelLatest", "()I"⟩
abbrev cX5_closeDay : ByteArray := prog_7_method_9_code
def yX5_closeDay : MethodName := ⟨RX5, "closeDay", "()I"⟩
abbrev cX5_putInPaper : ByteArray := prog_7_method_10_code
def yX5_putInPaper : MethodName := ⟨RX5, "putInPaper", "(II)I"⟩
abbrev cX5_moveClock : ByteArray := prog_7_method_11_code
def yX5_moveClock : MethodName := ⟨RX5, "moveClock", "(I)I"⟩
abbrev cX5_losePower : ByteArray := prog_7_method_12_code
def yX5_losePower : MethodName := ⟨RX5, "losePower", "()V"⟩
abbrev cX5_wake : ByteArray := prog_7_method_13_code
def yX5_wake : MethodName := ⟨RX5, "wake", "()V"⟩
abbrev cX5_writeRecord : ByteArray := prog_7_method_14_code
def yX5_writeRecord : MethodName := ⟨RX5, "writeRecord", "(III)Z"⟩
abbrev cX5_beginBlock : ByteArray := prog_7_method_15_code
def yX5_beginBlock : MethodName := ⟨RX5, "beginBlock", "()Z"⟩
abbrev cX5_fillPlace : ByteArray := prog_7_method_16_code
def yX5_fillPlace : MethodName := ⟨RX5, "fillPlace", "(III)Z"⟩
def RX6 : String := "TicketJournal"
def TX6 : u_T := fun k => match k with
  | 0 => ("TicketJournal", "present", "LTicketJournal$Printer;", true)
  | 1 => ("TicketJournal", "trial", "LTicketJournal$Printer;", true)
  | 2 => ("TicketJournal", "journal", "LTicketJournal$Journal;", true)
  | 3 => ("TicketJournal", "past", "LTicketJournal$Past;", true)
  | _ => ("TicketJournal", "images", "[LTicketJournal$Image;", true)
def tyX6 : Nat → FieldType := fun k => match k with
  | 0 => .object "TicketJournal$Printer"
  | 1 => .object "TicketJournal$Printer"
  | 2 => .object "TicketJournal$Journal"
  | 3 => .object "TicketJournal$Past"
  | _ => .array (.object "TicketJournal$Image")
abbrev wsX60 : List Cond := u_ws RX6 TX6 5
theorem nmX6 : ∀ a, a < 5 → ∀ b, b < 5 → a ≠ b → (TX6 a).2.1 ≠ (TX6 b).2.1 := by decide +kernel
theorem tyX6_ok : ∀ k, k < 5 → parseFieldDescriptor (TX6 k).2.2.1 = some (tyX6 k) := by decide +kernel
abbrev cX6_init : ByteArray := prog_1_method_1_code
def yX6_init : MethodName := ⟨RX6, "<init>", "()V"⟩
abbrev cX6_sell : ByteArray := prog_1_method_2_code
def yX6_sell : MethodName := ⟨RX6, "sell", "(I)I"⟩
abbrev cX6_cancel : ByteArray := prog_1_method_3_code
def yX6_cancel : MethodName := ⟨RX6, "cancel", "()I"⟩
abbrev cX6_close : ByteArray := prog_1_method_4_code
def yX6_close : MethodName := ⟨RX6, "close", "()I"⟩
abbrev cX6_load : ByteArray := prog_1_method_5_code
def yX6_load : MethodName := ⟨RX6, "load", "(II)I"⟩
abbrev cX6_setClock : ByteArray := prog_1_method_6_code
def yX6_setClock : MethodName := ⟨RX6, "setClock", "(I)I"⟩
abbrev cX6_pass : ByteArray := prog_1_method_7_code
def yX6_pass : MethodName := ⟨RX6, "pass", "(I)I"⟩
abbrev cX6_setPrice : ByteArray := prog_1_method_8_code
def yX6_setPrice : MethodName := ⟨RX6, "setPrice", "(II)I"⟩
abbrev cX6_cut : ByteArray := prog_1_method_9_code
def yX6_cut : MethodName := ⟨RX6, "cut", "(I)I"⟩
abbrev cX6_off : ByteArray := prog_1_method_10_code
def yX6_off : MethodName := ⟨RX6, "off", "()I"⟩
abbrev cX6_start : ByteArray := prog_1_method_11_code
def yX6_start : MethodName := ⟨RX6, "start", "()I"⟩
abbrev cX6_undo : ByteArray := prog_1_method_12_code
def yX6_undo : MethodName := ⟨RX6, "undo", "()I"⟩
abbrev cX6_told : ByteArray := prog_1_method_13_code
def yX6_told : MethodName := ⟨RX6, "told", "(I)I"⟩
abbrev cX6_knownNumber : ByteArray := prog_1_method_14_code
def yX6_knownNumber : MethodName := ⟨RX6, "knownNumber", "(I)I"⟩
abbrev cX6_word : ByteArray := prog_1_method_16_code
def yX6_word : MethodName := ⟨RX6, "word", "(II)I"⟩
abbrev cX6_block : ByteArray := prog_1_method_17_code
def yX6_block : MethodName := ⟨RX6, "block", "(II)I"⟩
abbrev cX6_records : ByteArray := prog_1_method_18_code
def yX6_records : MethodName := ⟨RX6, "records", "(I)I"⟩
abbrev cX6_record : ByteArray := prog_1_method_19_code
def yX6_record : MethodName := ⟨RX6, "record", "(II)I"⟩
abbrev cX6_takings : ByteArray := prog_1_method_20_code
def yX6_takings : MethodName := ⟨RX6, "takings", "(I)I"⟩
abbrev cX6_mean : ByteArray := prog_1_method_21_code
def yX6_mean : MethodName := ⟨RX6, "mean", "()F"⟩
abbrev cX6_operations : ByteArray := prog_1_method_23_code
def yX6_operations : MethodName := ⟨RX6, "operations", "(I)I"⟩
abbrev cX6_after : ByteArray := prog_1_method_24_code
def yX6_after : MethodName := ⟨RX6, "after", "(III)I"⟩
abbrev cX6_needed : ByteArray := prog_1_method_25_code
def yX6_needed : MethodName := ⟨RX6, "needed", "(I)I"⟩
abbrev cX6_trySale : ByteArray := prog_1_method_26_code
def yX6_trySale : MethodName := ⟨RX6, "trySale", "(II)V"⟩
abbrev cX6_keep : ByteArray := prog_1_method_27_code
def yX6_keep : MethodName := ⟨RX6, "keep", "(I)I"⟩
abbrev cX6_back : ByteArray := prog_1_method_28_code
def yX6_back : MethodName := ⟨RX6, "back", "(I)I"⟩
abbrev cX6_isImage : ByteArray := prog_1_method_29_code
def yX6_isImage : MethodName := ⟨RX6, "isImage", "(I)Z"⟩
abbrev cX6_isWithin : ByteArray := prog_1_method_30_code
def yX6_isWithin : MethodName := ⟨RX6, "isWithin", "(III)Z"⟩
abbrev cX6_isSort : ByteArray := prog_1_method_31_code
def yX6_isSort : MethodName := ⟨RX6, "isSort", "(I)Z"⟩
abbrev cX6_isBlock : ByteArray := prog_1_method_32_code
def yX6_isBlock : MethodName := ⟨RX6, "isBlock", "(I)Z"⟩
abbrev cX6_lengthOf : ByteArray := prog_1_method_33_code
def yX6_lengthOf : MethodName := ⟨RX6, "lengthOf", "(I)I"⟩
abbrev cX6_headerCheck : ByteArray := prog_1_method_34_code
def yX6_headerCheck : MethodName := ⟨RX6, "headerCheck", "(IIIII)I"⟩
abbrev cX6_recordCheck : ByteArray := prog_1_method_35_code
def yX6_recordCheck : MethodName := ⟨RX6, "recordCheck", "(IIII)I"⟩
def RX7 : String := "TicketJournalModel"
def TX7 : u_T := fun k => match k with
  | _ => ("", "", "", false)
def tyX7 : Nat → FieldType := fun k => match k with
  | _ => .int
abbrev wsX70 : List Cond := u_ws RX7 TX7 0
theorem nmX7 : ∀ a, a < 0 → ∀ b, b < 0 → a ≠ b → (TX7 a).2.1 ≠ (TX7 b).2.1 := by decide +kernel
theorem tyX7_ok : ∀ k, k < 0 → parseFieldDescriptor (TX7 k).2.2.1 = some (tyX7 k) := by decide +kernel
def RL : String := "TicketJournalLaw"
abbrev cL_cell : ByteArray := method_2_code
def yL_cell : MethodName := ⟨RL, "cell", "([II)I"⟩
abbrev cL_low : ByteArray := method_3_code
def yL_low : MethodName := ⟨RL, "low", "(II)I"⟩
abbrev cL_change : ByteArray := method_4_code
def yL_change : MethodName := ⟨RL, "change", "(LTicketJournal;II)I"⟩
abbrev cL_isJournal : ByteArray := method_5_code
def yL_isJournal : MethodName := ⟨RL, "isJournal", "(LTicketJournal;)Z"⟩
abbrev cL_isKnown : ByteArray := method_6_code
def yL_isKnown : MethodName := ⟨RL, "isKnown", "(LTicketJournal;)Z"⟩
abbrev cL_isCut : ByteArray := method_7_code
def yL_isCut : MethodName := ⟨RL, "isCut", "(LTicketJournal;II)Z"⟩
abbrev cL_areAlike : ByteArray := method_8_code
def yL_areAlike : MethodName := ⟨RL, "areAlike", "(LTicketJournal;LTicketJournal;)Z"⟩
abbrev cL_law : ByteArray := code
def yL_law : MethodName := ⟨RL, "law", "([I)Z"⟩
abbrev vwCl : List vw_C := [(RX0, TX0, 4), (RX1, TX1, 2), (RX2, TX2, 2), (RX3, TX3, 6), (RX4, TX4, 3), (RX5, TX5, 7), (RX6, TX6, 5)]
theorem inX0 : ∀ w ∈ wsX00, w ∈ lw_tbl := by
  show ∀ w ∈ [u_lay RX0 TX0 0, u_lay RX0 TX0 1, u_lay RX0 TX0 2, u_lay RX0 TX0 3], w ∈ lw_tbl
  exact List.forall_mem_cons.mpr ⟨List.mem_of_getElem? (i := 49) (by decide +kernel), List.forall_mem_cons.mpr ⟨List.mem_of_getElem? (i := 51) (by decide +kernel), List.forall_mem_cons.mpr ⟨List.mem_of_getElem? (i := 53) (by decide +kernel), List.forall_mem_cons.mpr ⟨List.mem_of_getElem? (i := 55) (by decide +kernel), fun _ h => absurd h List.not_mem_nil⟩⟩⟩⟩
theorem inX1 : ∀ w ∈ wsX10, w ∈ lw_tbl := by
  show ∀ w ∈ [u_lay RX1 TX1 0, u_lay RX1 TX1 1], w ∈ lw_tbl
  exact List.forall_mem_cons.mpr ⟨List.mem_of_getElem? (i := 170) (by decide +kernel), List.forall_mem_cons.mpr ⟨List.mem_of_getElem? (i := 172) (by decide +kernel), fun _ h => absurd h List.not_mem_nil⟩⟩
theorem inX2 : ∀ w ∈ wsX20, w ∈ lw_tbl := by
  show ∀ w ∈ [u_lay RX2 TX2 0, u_lay RX2 TX2 1], w ∈ lw_tbl
  exact List.forall_mem_cons.mpr ⟨List.mem_of_getElem? (i := 132) (by decide +kernel), List.forall_mem_cons.mpr ⟨List.mem_of_getElem? (i := 134) (by decide +kernel), fun _ h => absurd h List.not_mem_nil⟩⟩
theorem inX3 : ∀ w ∈ wsX30, w ∈ lw_tbl := by
  show ∀ w ∈ [u_lay RX3 TX3 0, u_lay RX3 TX3 1, u_lay RX3 TX3 2, u_lay RX3 TX3 3, u_lay RX3 TX3 4, u_lay RX3 TX3 5], w ∈ lw_tbl
  exact List.forall_mem_cons.mpr ⟨List.mem_of_getElem? (i := 83) (by decide +kernel), List.forall_mem_cons.mpr ⟨List.mem_of_getElem? (i := 85) (by decide +kernel), List.forall_mem_cons.mpr ⟨List.mem_of_getElem? (i := 87) (by decide +kernel), List.forall_mem_cons.mpr ⟨List.mem_of_getElem? (i := 89) (by decide +kernel), List.forall_mem_cons.mpr ⟨List.mem_of_getElem? (i := 91) (by decide +kernel), List.forall_mem_cons.mpr ⟨List.mem_of_getElem? (i := 93) (by decide +kernel), fun _ h => absurd h List.not_mem_nil⟩⟩⟩⟩⟩⟩
theorem inX4 : ∀ w ∈ wsX40, w ∈ lw_tbl := by
  show ∀ w ∈ [u_lay RX4 TX4 0, u_lay RX4 TX4 1, u_lay RX4 TX4 2], w ∈ lw_tbl
  exact List.forall_mem_cons.mpr ⟨List.mem_of_getElem? (i := 150) (by decide +kernel), List.forall_mem_cons.mpr ⟨List.mem_of_getElem? (i := 152) (by decide +kernel), List.forall_mem_cons.mpr ⟨List.mem_of_getElem? (i := 154) (by decide +kernel), fun _ h => absurd h List.not_mem_nil⟩⟩⟩
theorem inX5 : ∀ w ∈ wsX50, w ∈ lw_tbl := by
  show ∀ w ∈ [u_lay RX5 TX5 0, u_lay RX5 TX5 1, u_lay RX5 TX5 2, u_lay RX5 TX5 3, u_lay RX5 TX5 4, u_lay RX5 TX5 5, u_lay RX5 TX5 6], w ∈ lw_tbl
  exact List.forall_mem_cons.mpr ⟨List.mem_of_getElem? (i := 109) (by decide +kernel), List.forall_mem_cons.mpr ⟨List.mem_of_getElem? (i := 111) (by decide +kernel), List.forall_mem_cons.mpr ⟨List.mem_of_getElem? (i := 113) (by decide +kernel), List.forall_mem_cons.mpr ⟨List.mem_of_getElem? (i := 115) (by decide +kernel), List.forall_mem_cons.mpr ⟨List.mem_of_getElem? (i := 117) (by decide +kernel), List.forall_mem_cons.mpr ⟨List.mem_of_getElem? (i := 119) (by decide +kernel), List.forall_mem_cons.mpr ⟨List.mem_of_getElem? (i := 121) (by decide +kernel), fun _ h => absurd h List.not_mem_nil⟩⟩⟩⟩⟩⟩⟩
theorem inX6 : ∀ w ∈ wsX60, w ∈ lw_tbl := by
  show ∀ w ∈ [u_lay RX6 TX6 0, u_lay RX6 TX6 1, u_lay RX6 TX6 2, u_lay RX6 TX6 3, u_lay RX6 TX6 4], w ∈ lw_tbl
  exact List.forall_mem_cons.mpr ⟨List.mem_of_getElem? (i := 180) (by decide +kernel), List.forall_mem_cons.mpr ⟨List.mem_of_getElem? (i := 182) (by decide +kernel), List.forall_mem_cons.mpr ⟨List.mem_of_getElem? (i := 184) (by decide +kernel), List.forall_mem_cons.mpr ⟨List.mem_of_getElem? (i := 186) (by decide +kernel), List.forall_mem_cons.mpr ⟨List.mem_of_getElem? (i := 188) (by decide +kernel), fun _ h => absurd h List.not_mem_nil⟩⟩⟩⟩⟩
theorem dX0_init_0 : decode cX0_init 0 = .ok (.aload_n 0, 1) := by decide +kernel
theorem dX0_init_1 : decode cX0_init 1 = .ok (.invokespecial 3, 3) := by decide +kernel
theorem dX0_init_4 : decode cX0_init 4 = .ok (.aload_n 0, 1) := by decide +kernel
theorem dX0_init_5 : decode cX0_init 5 = .ok (.bipush 110, 2) := by decide +kernel
theorem dX0_init_7 : decode cX0_init 7 = .ok (.newarray .int, 2) := by decide +kernel
theorem dX0_init_9 : decode cX0_init 9 = .ok (.putfield 9, 3) := by decide +kernel
theorem dX0_init_12 : decode cX0_init 12 = .ok (.aload_n 0, 1) := by decide +kernel
theorem dX0_init_13 : decode cX0_init 13 = .ok (.iconst 5, 1) := by decide +kernel
theorem dX0_init_14 : decode cX0_init 14 = .ok (.newarray .int, 2) := by decide +kernel
theorem dX0_init_16 : decode cX0_init 16 = .ok (.putfield 15, 3) := by decide +kernel
theorem dX0_init_19 : decode cX0_init 19 = .ok (.aload_n 0, 1) := by decide +kernel
theorem dX0_init_20 : decode cX0_init 20 = .ok (.iconst 0, 1) := by decide +kernel
theorem dX0_init_21 : decode cX0_init 21 = .ok (.putfield 18, 3) := by decide +kernel
theorem dX0_init_24 : decode cX0_init 24 = .ok (.aload_n 0, 1) := by decide +kernel
theorem dX0_init_25 : decode cX0_init 25 = .ok (.bipush (-9), 2) := by decide +kernel
theorem dX0_init_27 : decode cX0_init 27 = .ok (.putfield 22, 3) := by decide +kernel
theorem dX0_init_30 : decode cX0_init 30 = .ok (.iconst 0, 1) := by decide +kernel
theorem dX0_init_31 : decode cX0_init 31 = .ok (.istore_n 1, 1) := by decide +kernel
theorem dX0_init_32 : decode cX0_init 32 = .ok (.iload_n 1, 1) := by decide +kernel
theorem dX0_init_33 : decode cX0_init 33 = .ok (.aload_n 0, 1) := by decide +kernel
theorem dX0_init_34 : decode cX0_init 34 = .ok (.getfield 9, 3) := by decide +kernel
theorem dX0_init_37 : decode cX0_init 37 = .ok (.arraylength, 1) := by decide +kernel
theorem dX0_init_38 : decode cX0_init 38 = .ok (.if_icmp .ge 26, 3) := by decide +kernel
theorem dX0_init_41 : decode cX0_init 41 = .ok (.aload_n 0, 1) := by decide +kernel
theorem dX0_init_42 : decode cX0_init 42 = .ok (.getfield 9, 3) := by decide +kernel
theorem dX0_init_45 : decode cX0_init 45 = .ok (.iload_n 1, 1) := by decide +kernel
theorem dX0_init_46 : decode cX0_init 46 = .ok (.iload_n 1, 1) := by decide +kernel
theorem dX0_init_47 : decode cX0_init 47 = .ok (.iconst 5, 1) := by decide +kernel
theorem dX0_init_48 : decode cX0_init 48 = .ok (.if_icmp .ge 7, 3) := by decide +kernel
theorem dX0_init_51 : decode cX0_init 51 = .ok (.iconst 0, 1) := by decide +kernel
theorem dX0_init_52 : decode cX0_init 52 = .ok (.goto 5, 3) := by decide +kernel
theorem dX0_init_55 : decode cX0_init 55 = .ok (.ldc 25, 2) := by decide +kernel
theorem dX0_init_57 : decode cX0_init 57 = .ok (.iastore, 1) := by decide +kernel
theorem dX0_init_58 : decode cX0_init 58 = .ok (.iinc 1 1, 3) := by decide +kernel
theorem dX0_init_61 : decode cX0_init 61 = .ok (.goto (-29), 3) := by decide +kernel
theorem dX0_init_64 : decode cX0_init 64 = .ok (.aload_n 0, 1) := by decide +kernel
theorem dX0_init_65 : decode cX0_init 65 = .ok (.getfield 9, 3) := by decide +kernel
theorem dX0_init_68 : decode cX0_init 68 = .ok (.iconst 5, 1) := by decide +kernel
theorem dX0_init_69 : decode cX0_init 69 = .ok (.iconst 1, 1) := by decide +kernel
theorem dX0_init_70 : decode cX0_init 70 = .ok (.iastore, 1) := by decide +kernel
theorem dX0_init_71 : decode cX0_init 71 = .ok (.return_, 1) := by decide +kernel
theorem dX0_copyFrom_0 : decode cX0_copyFrom 0 = .ok (.aload_n 1, 1) := by decide +kernel
theorem dX0_copyFrom_1 : decode cX0_copyFrom 1 = .ok (.getfield 9, 3) := by decide +kernel
theorem dX0_copyFrom_4 : decode cX0_copyFrom 4 = .ok (.iconst 0, 1) := by decide +kernel
theorem dX0_copyFrom_5 : decode cX0_copyFrom 5 = .ok (.aload_n 0, 1) := by decide +kernel
theorem dX0_copyFrom_6 : decode cX0_copyFrom 6 = .ok (.getfield 9, 3) := by decide +kernel
theorem dX0_copyFrom_9 : decode cX0_copyFrom 9 = .ok (.iconst 0, 1) := by decide +kernel
theorem dX0_copyFrom_10 : decode cX0_copyFrom 10 = .ok (.bipush 110, 2) := by decide +kernel
theorem dX0_copyFrom_12 : decode cX0_copyFrom 12 = .ok (.invokestatic 26, 3) := by decide +kernel
theorem dX0_copyFrom_15 : decode cX0_copyFrom 15 = .ok (.aload_n 1, 1) := by decide +kernel
theorem dX0_copyFrom_16 : decode cX0_copyFrom 16 = .ok (.getfield 15, 3) := by decide +kernel
theorem dX0_copyFrom_19 : decode cX0_copyFrom 19 = .ok (.iconst 0, 1) := by decide +kernel
theorem dX0_copyFrom_20 : decode cX0_copyFrom 20 = .ok (.aload_n 0, 1) := by decide +kernel
theorem dX0_copyFrom_21 : decode cX0_copyFrom 21 = .ok (.getfield 15, 3) := by decide +kernel
theorem dX0_copyFrom_24 : decode cX0_copyFrom 24 = .ok (.iconst 0, 1) := by decide +kernel
theorem dX0_copyFrom_25 : decode cX0_copyFrom 25 = .ok (.iconst 5, 1) := by decide +kernel
theorem dX0_copyFrom_26 : decode cX0_copyFrom 26 = .ok (.invokestatic 26, 3) := by decide +kernel
theorem dX0_copyFrom_29 : decode cX0_copyFrom 29 = .ok (.aload_n 0, 1) := by decide +kernel
theorem dX0_copyFrom_30 : decode cX0_copyFrom 30 = .ok (.aload_n 1, 1) := by decide +kernel
theorem dX0_copyFrom_31 : decode cX0_copyFrom 31 = .ok (.getfield 18, 3) := by decide +kernel
theorem dX0_copyFrom_34 : decode cX0_copyFrom 34 = .ok (.putfield 18, 3) := by decide +kernel
theorem dX0_copyFrom_37 : decode cX0_copyFrom 37 = .ok (.aload_n 0, 1) := by decide +kernel
theorem dX0_copyFrom_38 : decode cX0_copyFrom 38 = .ok (.aload_n 1, 1) := by decide +kernel
theorem dX0_copyFrom_39 : decode cX0_copyFrom 39 = .ok (.getfield 22, 3) := by decide +kernel
theorem dX0_copyFrom_42 : decode cX0_copyFrom 42 = .ok (.putfield 22, 3) := by decide +kernel
theorem dX0_copyFrom_45 : decode cX0_copyFrom 45 = .ok (.return_, 1) := by decide +kernel
theorem dX0_read_0 : decode cX0_read 0 = .ok (.iload_n 1, 1) := by decide +kernel
theorem dX0_read_1 : decode cX0_read 1 = .ok (.bipush 22, 2) := by decide +kernel
theorem dX0_read_3 : decode cX0_read 3 = .ok (.imul, 1) := by decide +kernel
theorem dX0_read_4 : decode cX0_read 4 = .ok (.iload_n 2, 1) := by decide +kernel
theorem dX0_read_5 : decode cX0_read 5 = .ok (.iadd, 1) := by decide +kernel
theorem dX0_read_6 : decode cX0_read 6 = .ok (.istore_n 3, 1) := by decide +kernel
theorem dX0_read_7 : decode cX0_read 7 = .ok (.iload_n 3, 1) := by decide +kernel
theorem dX0_read_8 : decode cX0_read 8 = .ok (.ifCond .lt 21, 3) := by decide +kernel
theorem dX0_read_11 : decode cX0_read 11 = .ok (.iload_n 3, 1) := by decide +kernel
theorem dX0_read_12 : decode cX0_read 12 = .ok (.aload_n 0, 1) := by decide +kernel
theorem dX0_read_13 : decode cX0_read 13 = .ok (.getfield 9, 3) := by decide +kernel
theorem dX0_read_16 : decode cX0_read 16 = .ok (.arraylength, 1) := by decide +kernel
theorem dX0_read_17 : decode cX0_read 17 = .ok (.if_icmp .ge 12, 3) := by decide +kernel
theorem dX0_read_20 : decode cX0_read 20 = .ok (.aload_n 0, 1) := by decide +kernel
theorem dX0_read_21 : decode cX0_read 21 = .ok (.getfield 9, 3) := by decide +kernel
theorem dX0_read_24 : decode cX0_read 24 = .ok (.iload_n 3, 1) := by decide +kernel
theorem dX0_read_25 : decode cX0_read 25 = .ok (.iaload, 1) := by decide +kernel
theorem dX0_read_26 : decode cX0_read 26 = .ok (.goto 5, 3) := by decide +kernel
theorem dX0_read_29 : decode cX0_read 29 = .ok (.ldc 25, 2) := by decide +kernel
theorem dX0_read_31 : decode cX0_read 31 = .ok (.ireturn, 1) := by decide +kernel
theorem dX0_write_0 : decode cX0_write 0 = .ok (.iload_n 1, 1) := by decide +kernel
theorem dX0_write_1 : decode cX0_write 1 = .ok (.bipush 22, 2) := by decide +kernel
theorem dX0_write_3 : decode cX0_write 3 = .ok (.imul, 1) := by decide +kernel
theorem dX0_write_4 : decode cX0_write 4 = .ok (.iload_n 2, 1) := by decide +kernel
theorem dX0_write_5 : decode cX0_write 5 = .ok (.iadd, 1) := by decide +kernel
theorem dX0_write_6 : decode cX0_write 6 = .ok (.istore 4, 2) := by decide +kernel
theorem dX0_write_8 : decode cX0_write 8 = .ok (.iload 4, 2) := by decide +kernel
theorem dX0_write_10 : decode cX0_write 10 = .ok (.ifCond .lt 20, 3) := by decide +kernel
theorem dX0_write_13 : decode cX0_write 13 = .ok (.iload 4, 2) := by decide +kernel
theorem dX0_write_15 : decode cX0_write 15 = .ok (.aload_n 0, 1) := by decide +kernel
theorem dX0_write_16 : decode cX0_write 16 = .ok (.getfield 9, 3) := by decide +kernel
theorem dX0_write_19 : decode cX0_write 19 = .ok (.arraylength, 1) := by decide +kernel
theorem dX0_write_20 : decode cX0_write 20 = .ok (.if_icmp .ge 10, 3) := by decide +kernel
theorem dX0_write_23 : decode cX0_write 23 = .ok (.aload_n 0, 1) := by decide +kernel
theorem dX0_write_24 : decode cX0_write 24 = .ok (.invokevirtual 32, 3) := by decide +kernel
theorem dX0_write_27 : decode cX0_write 27 = .ok (.ifCond .ne 5, 3) := by decide +kernel
theorem dX0_write_30 : decode cX0_write 30 = .ok (.iconst 0, 1) := by decide +kernel
theorem dX0_write_31 : decode cX0_write 31 = .ok (.ireturn, 1) := by decide +kernel
theorem dX0_write_32 : decode cX0_write 32 = .ok (.aload_n 0, 1) := by decide +kernel
theorem dX0_write_33 : decode cX0_write 33 = .ok (.getfield 9, 3) := by decide +kernel
theorem dX0_write_36 : decode cX0_write 36 = .ok (.iload 4, 2) := by decide +kernel
theorem dX0_write_38 : decode cX0_write 38 = .ok (.iload_n 3, 1) := by decide +kernel
theorem dX0_write_39 : decode cX0_write 39 = .ok (.iastore, 1) := by decide +kernel
theorem dX0_write_40 : decode cX0_write 40 = .ok (.iconst 1, 1) := by decide +kernel
theorem dX0_write_41 : decode cX0_write 41 = .ok (.ireturn, 1) := by decide +kernel
theorem dX0_erase_0 : decode cX0_erase 0 = .ok (.iload_n 1, 1) := by decide +kernel
theorem dX0_erase_1 : decode cX0_erase 1 = .ok (.ifCond .lt 19, 3) := by decide +kernel
theorem dX0_erase_4 : decode cX0_erase 4 = .ok (.iload_n 1, 1) := by decide +kernel
theorem dX0_erase_5 : decode cX0_erase 5 = .ok (.aload_n 0, 1) := by decide +kernel
theorem dX0_erase_6 : decode cX0_erase 6 = .ok (.getfield 15, 3) := by decide +kernel
theorem dX0_erase_9 : decode cX0_erase 9 = .ok (.arraylength, 1) := by decide +kernel
theorem dX0_erase_10 : decode cX0_erase 10 = .ok (.if_icmp .ge 10, 3) := by decide +kernel
theorem dX0_erase_13 : decode cX0_erase 13 = .ok (.aload_n 0, 1) := by decide +kernel
theorem dX0_erase_14 : decode cX0_erase 14 = .ok (.invokevirtual 32, 3) := by decide +kernel
theorem dX0_erase_17 : decode cX0_erase 17 = .ok (.ifCond .ne 5, 3) := by decide +kernel
theorem dX0_erase_20 : decode cX0_erase 20 = .ok (.iconst 0, 1) := by decide +kernel
theorem dX0_erase_21 : decode cX0_erase 21 = .ok (.ireturn, 1) := by decide +kernel
theorem dX0_erase_22 : decode cX0_erase 22 = .ok (.iload_n 1, 1) := by decide +kernel
theorem dX0_erase_23 : decode cX0_erase 23 = .ok (.bipush 22, 2) := by decide +kernel
theorem dX0_erase_25 : decode cX0_erase 25 = .ok (.imul, 1) := by decide +kernel
theorem dX0_erase_26 : decode cX0_erase 26 = .ok (.istore_n 2, 1) := by decide +kernel
theorem dX0_erase_27 : decode cX0_erase 27 = .ok (.iload_n 2, 1) := by decide +kernel
theorem dX0_erase_28 : decode cX0_erase 28 = .ok (.iload_n 1, 1) := by decide +kernel
theorem dX0_erase_29 : decode cX0_erase 29 = .ok (.iconst 1, 1) := by decide +kernel
theorem dX0_erase_30 : decode cX0_erase 30 = .ok (.iadd, 1) := by decide +kernel
theorem dX0_erase_31 : decode cX0_erase 31 = .ok (.bipush 22, 2) := by decide +kernel
theorem dX0_erase_33 : decode cX0_erase 33 = .ok (.imul, 1) := by decide +kernel
theorem dX0_erase_34 : decode cX0_erase 34 = .ok (.if_icmp .ge 26, 3) := by decide +kernel
theorem dX0_erase_37 : decode cX0_erase 37 = .ok (.iload_n 2, 1) := by decide +kernel
theorem dX0_erase_38 : decode cX0_erase 38 = .ok (.aload_n 0, 1) := by decide +kernel
theorem dX0_erase_39 : decode cX0_erase 39 = .ok (.getfield 9, 3) := by decide +kernel
theorem dX0_erase_42 : decode cX0_erase 42 = .ok (.arraylength, 1) := by decide +kernel
theorem dX0_erase_43 : decode cX0_erase 43 = .ok (.if_icmp .ge 17, 3) := by decide +kernel
theorem dX0_erase_46 : decode cX0_erase 46 = .ok (.aload_n 0, 1) := by decide +kernel
theorem dX0_erase_47 : decode cX0_erase 47 = .ok (.getfield 9, 3) := by decide +kernel
theorem dX0_erase_50 : decode cX0_erase 50 = .ok (.iload_n 2, 1) := by decide +kernel
theorem dX0_erase_51 : decode cX0_erase 51 = .ok (.ldc 25, 2) := by decide +kernel
theorem dX0_erase_53 : decode cX0_erase 53 = .ok (.iastore, 1) := by decide +kernel
theorem dX0_erase_54 : decode cX0_erase 54 = .ok (.iinc 2 1, 3) := by decide +kernel
theorem dX0_erase_57 : decode cX0_erase 57 = .ok (.goto (-30), 3) := by decide +kernel
theorem dX0_erase_60 : decode cX0_erase 60 = .ok (.aload_n 0, 1) := by decide +kernel
theorem dX0_erase_61 : decode cX0_erase 61 = .ok (.getfield 15, 3) := by decide +kernel
theorem dX0_erase_64 : decode cX0_erase 64 = .ok (.iload_n 1, 1) := by decide +kernel
theorem dX0_erase_65 : decode cX0_erase 65 = .ok (.dup2, 1) := by decide +kernel
theorem dX0_erase_66 : decode cX0_erase 66 = .ok (.iaload, 1) := by decide +kernel
theorem dX0_erase_67 : decode cX0_erase 67 = .ok (.iconst 1, 1) := by decide +kernel
theorem dX0_erase_68 : decode cX0_erase 68 = .ok (.iadd, 1) := by decide +kernel
theorem dX0_erase_69 : decode cX0_erase 69 = .ok (.iastore, 1) := by decide +kernel
theorem dX0_erase_70 : decode cX0_erase 70 = .ok (.iconst 1, 1) := by decide +kernel
theorem dX0_erase_71 : decode cX0_erase 71 = .ok (.ireturn, 1) := by decide +kernel
theorem dX0_spendOperation_0 : decode cX0_spendOperation 0 = .ok (.aload_n 0, 1) := by decide +kernel
theorem dX0_spendOperation_1 : decode cX0_spendOperation 1 = .ok (.getfield 22, 3) := by decide +kernel
theorem dX0_spendOperation_4 : decode cX0_spendOperation 4 = .ok (.ifCond .ne 11, 3) := by decide +kernel
theorem dX0_spendOperation_7 : decode cX0_spendOperation 7 = .ok (.aload_n 0, 1) := by decide +kernel
theorem dX0_spendOperation_8 : decode cX0_spendOperation 8 = .ok (.bipush (-9), 2) := by decide +kernel
theorem dX0_spendOperation_10 : decode cX0_spendOperation 10 = .ok (.putfield 22, 3) := by decide +kernel
theorem dX0_spendOperation_13 : decode cX0_spendOperation 13 = .ok (.iconst 0, 1) := by decide +kernel
theorem dX0_spendOperation_14 : decode cX0_spendOperation 14 = .ok (.ireturn, 1) := by decide +kernel
theorem dX0_spendOperation_15 : decode cX0_spendOperation 15 = .ok (.aload_n 0, 1) := by decide +kernel
theorem dX0_spendOperation_16 : decode cX0_spendOperation 16 = .ok (.getfield 22, 3) := by decide +kernel
theorem dX0_spendOperation_19 : decode cX0_spendOperation 19 = .ok (.bipush (-9), 2) := by decide +kernel
theorem dX0_spendOperation_21 : decode cX0_spendOperation 21 = .ok (.if_icmp .eq 13, 3) := by decide +kernel
theorem dX0_spendOperation_24 : decode cX0_spendOperation 24 = .ok (.aload_n 0, 1) := by decide +kernel
theorem dX0_spendOperation_25 : decode cX0_spendOperation 25 = .ok (.dup, 1) := by decide +kernel
theorem dX0_spendOperation_26 : decode cX0_spendOperation 26 = .ok (.getfield 22, 3) := by decide +kernel
theorem dX0_spendOperation_29 : decode cX0_spendOperation 29 = .ok (.iconst 1, 1) := by decide +kernel
theorem dX0_spendOperation_30 : decode cX0_spendOperation 30 = .ok (.isub, 1) := by decide +kernel
theorem dX0_spendOperation_31 : decode cX0_spendOperation 31 = .ok (.putfield 22, 3) := by decide +kernel
theorem dX0_spendOperation_34 : decode cX0_spendOperation 34 = .ok (.aload_n 0, 1) := by decide +kernel
theorem dX0_spendOperation_35 : decode cX0_spendOperation 35 = .ok (.dup, 1) := by decide +kernel
theorem dX0_spendOperation_36 : decode cX0_spendOperation 36 = .ok (.getfield 18, 3) := by decide +kernel
theorem dX0_spendOperation_39 : decode cX0_spendOperation 39 = .ok (.iconst 1, 1) := by decide +kernel
theorem dX0_spendOperation_40 : decode cX0_spendOperation 40 = .ok (.iadd, 1) := by decide +kernel
theorem dX0_spendOperation_41 : decode cX0_spendOperation 41 = .ok (.putfield 18, 3) := by decide +kernel
theorem dX0_spendOperation_44 : decode cX0_spendOperation 44 = .ok (.iconst 1, 1) := by decide +kernel
theorem dX0_spendOperation_45 : decode cX0_spendOperation 45 = .ok (.ireturn, 1) := by decide +kernel
theorem dX0_erasuresOf_0 : decode cX0_erasuresOf 0 = .ok (.iload_n 1, 1) := by decide +kernel
theorem dX0_erasuresOf_1 : decode cX0_erasuresOf 1 = .ok (.ifCond .lt 21, 3) := by decide +kernel
theorem dX0_erasuresOf_4 : decode cX0_erasuresOf 4 = .ok (.iload_n 1, 1) := by decide +kernel
theorem dX0_erasuresOf_5 : decode cX0_erasuresOf 5 = .ok (.aload_n 0, 1) := by decide +kernel
theorem dX0_erasuresOf_6 : decode cX0_erasuresOf 6 = .ok (.getfield 15, 3) := by decide +kernel
theorem dX0_erasuresOf_9 : decode cX0_erasuresOf 9 = .ok (.arraylength, 1) := by decide +kernel
theorem dX0_erasuresOf_10 : decode cX0_erasuresOf 10 = .ok (.if_icmp .ge 12, 3) := by decide +kernel
theorem dX0_erasuresOf_13 : decode cX0_erasuresOf 13 = .ok (.aload_n 0, 1) := by decide +kernel
theorem dX0_erasuresOf_14 : decode cX0_erasuresOf 14 = .ok (.getfield 15, 3) := by decide +kernel
theorem dX0_erasuresOf_17 : decode cX0_erasuresOf 17 = .ok (.iload_n 1, 1) := by decide +kernel
theorem dX0_erasuresOf_18 : decode cX0_erasuresOf 18 = .ok (.iaload, 1) := by decide +kernel
theorem dX0_erasuresOf_19 : decode cX0_erasuresOf 19 = .ok (.goto 4, 3) := by decide +kernel
theorem dX0_erasuresOf_22 : decode cX0_erasuresOf 22 = .ok (.iconst 0, 1) := by decide +kernel
theorem dX0_erasuresOf_23 : decode cX0_erasuresOf 23 = .ok (.ireturn, 1) := by decide +kernel
theorem dX0_recordWord_0 : decode cX0_recordWord 0 = .ok (.aload_n 0, 1) := by decide +kernel
theorem dX0_recordWord_1 : decode cX0_recordWord 1 = .ok (.iload_n 1, 1) := by decide +kernel
theorem dX0_recordWord_2 : decode cX0_recordWord 2 = .ok (.bipush 6, 2) := by decide +kernel
theorem dX0_recordWord_4 : decode cX0_recordWord 4 = .ok (.iload_n 2, 1) := by decide +kernel
theorem dX0_recordWord_5 : decode cX0_recordWord 5 = .ok (.iconst 4, 1) := by decide +kernel
theorem dX0_recordWord_6 : decode cX0_recordWord 6 = .ok (.imul, 1) := by decide +kernel
theorem dX0_recordWord_7 : decode cX0_recordWord 7 = .ok (.iadd, 1) := by decide +kernel
theorem dX0_recordWord_8 : decode cX0_recordWord 8 = .ok (.iload_n 3, 1) := by decide +kernel
theorem dX0_recordWord_9 : decode cX0_recordWord 9 = .ok (.iadd, 1) := by decide +kernel
theorem dX0_recordWord_10 : decode cX0_recordWord 10 = .ok (.invokevirtual 36, 3) := by decide +kernel
theorem dX0_recordWord_13 : decode cX0_recordWord 13 = .ok (.ireturn, 1) := by decide +kernel
theorem dX0_isWhole_0 : decode cX0_isWhole 0 = .ok (.iconst 0, 1) := by decide +kernel
theorem dX0_isWhole_1 : decode cX0_isWhole 1 = .ok (.istore_n 2, 1) := by decide +kernel
theorem dX0_isWhole_2 : decode cX0_isWhole 2 = .ok (.iload_n 2, 1) := by decide +kernel
theorem dX0_isWhole_3 : decode cX0_isWhole 3 = .ok (.iconst 5, 1) := by decide +kernel
theorem dX0_isWhole_4 : decode cX0_isWhole 4 = .ok (.if_icmp .ge 22, 3) := by decide +kernel
theorem dX0_isWhole_7 : decode cX0_isWhole 7 = .ok (.aload_n 0, 1) := by decide +kernel
theorem dX0_isWhole_8 : decode cX0_isWhole 8 = .ok (.iload_n 1, 1) := by decide +kernel
theorem dX0_isWhole_9 : decode cX0_isWhole 9 = .ok (.iload_n 2, 1) := by decide +kernel
theorem dX0_isWhole_10 : decode cX0_isWhole 10 = .ok (.invokevirtual 36, 3) := by decide +kernel
theorem dX0_isWhole_13 : decode cX0_isWhole 13 = .ok (.ldc 25, 2) := by decide +kernel
theorem dX0_isWhole_15 : decode cX0_isWhole 15 = .ok (.if_icmp .ne 5, 3) := by decide +kernel
theorem dX0_isWhole_18 : decode cX0_isWhole 18 = .ok (.iconst 0, 1) := by decide +kernel
theorem dX0_isWhole_19 : decode cX0_isWhole 19 = .ok (.ireturn, 1) := by decide +kernel
theorem dX0_isWhole_20 : decode cX0_isWhole 20 = .ok (.iinc 2 1, 3) := by decide +kernel
theorem dX0_isWhole_23 : decode cX0_isWhole 23 = .ok (.goto (-21), 3) := by decide +kernel
theorem dX0_isWhole_26 : decode cX0_isWhole 26 = .ok (.aload_n 0, 1) := by decide +kernel
theorem dX0_isWhole_27 : decode cX0_isWhole 27 = .ok (.iload_n 1, 1) := by decide +kernel
theorem dX0_isWhole_28 : decode cX0_isWhole 28 = .ok (.iconst 0, 1) := by decide +kernel
theorem dX0_isWhole_29 : decode cX0_isWhole 29 = .ok (.invokevirtual 36, 3) := by decide +kernel
theorem dX0_isWhole_32 : decode cX0_isWhole 32 = .ok (.aload_n 0, 1) := by decide +kernel
theorem dX0_isWhole_33 : decode cX0_isWhole 33 = .ok (.iload_n 1, 1) := by decide +kernel
theorem dX0_isWhole_34 : decode cX0_isWhole 34 = .ok (.iconst 1, 1) := by decide +kernel
theorem dX0_isWhole_35 : decode cX0_isWhole 35 = .ok (.invokevirtual 36, 3) := by decide +kernel
theorem dX0_isWhole_38 : decode cX0_isWhole 38 = .ok (.aload_n 0, 1) := by decide +kernel
theorem dX0_isWhole_39 : decode cX0_isWhole 39 = .ok (.iload_n 1, 1) := by decide +kernel
theorem dX0_isWhole_40 : decode cX0_isWhole 40 = .ok (.iconst 2, 1) := by decide +kernel
theorem dX0_isWhole_41 : decode cX0_isWhole 41 = .ok (.invokevirtual 36, 3) := by decide +kernel
theorem dX0_isWhole_44 : decode cX0_isWhole 44 = .ok (.aload_n 0, 1) := by decide +kernel
theorem dX0_isWhole_45 : decode cX0_isWhole 45 = .ok (.iload_n 1, 1) := by decide +kernel
theorem dX0_isWhole_46 : decode cX0_isWhole 46 = .ok (.iconst 3, 1) := by decide +kernel
theorem dX0_isWhole_47 : decode cX0_isWhole 47 = .ok (.invokevirtual 36, 3) := by decide +kernel
theorem dX0_isWhole_50 : decode cX0_isWhole 50 = .ok (.aload_n 0, 1) := by decide +kernel
theorem dX0_isWhole_51 : decode cX0_isWhole 51 = .ok (.iload_n 1, 1) := by decide +kernel
theorem dX0_isWhole_52 : decode cX0_isWhole 52 = .ok (.iconst 4, 1) := by decide +kernel
theorem dX0_isWhole_53 : decode cX0_isWhole 53 = .ok (.invokevirtual 36, 3) := by decide +kernel
theorem dX0_isWhole_56 : decode cX0_isWhole 56 = .ok (.invokestatic 40, 3) := by decide +kernel
theorem dX0_isWhole_59 : decode cX0_isWhole 59 = .ok (.istore_n 2, 1) := by decide +kernel
theorem dX0_isWhole_60 : decode cX0_isWhole 60 = .ok (.aload_n 0, 1) := by decide +kernel
theorem dX0_isWhole_61 : decode cX0_isWhole 61 = .ok (.iload_n 1, 1) := by decide +kernel
theorem dX0_isWhole_62 : decode cX0_isWhole 62 = .ok (.iconst 5, 1) := by decide +kernel
theorem dX0_isWhole_63 : decode cX0_isWhole 63 = .ok (.invokevirtual 36, 3) := by decide +kernel
theorem dX0_isWhole_66 : decode cX0_isWhole 66 = .ok (.iload_n 2, 1) := by decide +kernel
theorem dX0_isWhole_67 : decode cX0_isWhole 67 = .ok (.if_icmp .ne 7, 3) := by decide +kernel
theorem dX0_isWhole_70 : decode cX0_isWhole 70 = .ok (.iconst 1, 1) := by decide +kernel
theorem dX0_isWhole_71 : decode cX0_isWhole 71 = .ok (.goto 4, 3) := by decide +kernel
theorem dX0_isWhole_74 : decode cX0_isWhole 74 = .ok (.iconst 0, 1) := by decide +kernel
theorem dX0_isWhole_75 : decode cX0_isWhole 75 = .ok (.ireturn, 1) := by decide +kernel
theorem dX0_stateOf_0 : decode cX0_stateOf 0 = .ok (.aload_n 0, 1) := by decide +kernel
theorem dX0_stateOf_1 : decode cX0_stateOf 1 = .ok (.iload_n 1, 1) := by decide +kernel
theorem dX0_stateOf_2 : decode cX0_stateOf 2 = .ok (.iload_n 2, 1) := by decide +kernel
theorem dX0_stateOf_3 : decode cX0_stateOf 3 = .ok (.invokevirtual 44, 3) := by decide +kernel
theorem dX0_stateOf_6 : decode cX0_stateOf 6 = .ok (.ifCond .eq 5, 3) := by decide +kernel
theorem dX0_stateOf_9 : decode cX0_stateOf 9 = .ok (.iconst 0, 1) := by decide +kernel
theorem dX0_stateOf_10 : decode cX0_stateOf 10 = .ok (.ireturn, 1) := by decide +kernel
theorem dX0_stateOf_11 : decode cX0_stateOf 11 = .ok (.aload_n 0, 1) := by decide +kernel
theorem dX0_stateOf_12 : decode cX0_stateOf 12 = .ok (.iload_n 1, 1) := by decide +kernel
theorem dX0_stateOf_13 : decode cX0_stateOf 13 = .ok (.iload_n 2, 1) := by decide +kernel
theorem dX0_stateOf_14 : decode cX0_stateOf 14 = .ok (.iconst 0, 1) := by decide +kernel
theorem dX0_stateOf_15 : decode cX0_stateOf 15 = .ok (.invokevirtual 48, 3) := by decide +kernel
theorem dX0_stateOf_18 : decode cX0_stateOf 18 = .ok (.aload_n 0, 1) := by decide +kernel
theorem dX0_stateOf_19 : decode cX0_stateOf 19 = .ok (.iload_n 1, 1) := by decide +kernel
theorem dX0_stateOf_20 : decode cX0_stateOf 20 = .ok (.iload_n 2, 1) := by decide +kernel
theorem dX0_stateOf_21 : decode cX0_stateOf 21 = .ok (.iconst 1, 1) := by decide +kernel
theorem dX0_stateOf_22 : decode cX0_stateOf 22 = .ok (.invokevirtual 48, 3) := by decide +kernel
theorem dX0_stateOf_25 : decode cX0_stateOf 25 = .ok (.aload_n 0, 1) := by decide +kernel
theorem dX0_stateOf_26 : decode cX0_stateOf 26 = .ok (.iload_n 1, 1) := by decide +kernel
theorem dX0_stateOf_27 : decode cX0_stateOf 27 = .ok (.iload_n 2, 1) := by decide +kernel
theorem dX0_stateOf_28 : decode cX0_stateOf 28 = .ok (.iconst 2, 1) := by decide +kernel
theorem dX0_stateOf_29 : decode cX0_stateOf 29 = .ok (.invokevirtual 48, 3) := by decide +kernel
theorem dX0_stateOf_32 : decode cX0_stateOf 32 = .ok (.aload_n 0, 1) := by decide +kernel
theorem dX0_stateOf_33 : decode cX0_stateOf 33 = .ok (.iload_n 1, 1) := by decide +kernel
theorem dX0_stateOf_34 : decode cX0_stateOf 34 = .ok (.iconst 0, 1) := by decide +kernel
theorem dX0_stateOf_35 : decode cX0_stateOf 35 = .ok (.invokevirtual 36, 3) := by decide +kernel
theorem dX0_stateOf_38 : decode cX0_stateOf 38 = .ok (.invokestatic 52, 3) := by decide +kernel
theorem dX0_stateOf_41 : decode cX0_stateOf 41 = .ok (.istore_n 3, 1) := by decide +kernel
theorem dX0_stateOf_42 : decode cX0_stateOf 42 = .ok (.aload_n 0, 1) := by decide +kernel
theorem dX0_stateOf_43 : decode cX0_stateOf 43 = .ok (.iload_n 1, 1) := by decide +kernel
theorem dX0_stateOf_44 : decode cX0_stateOf 44 = .ok (.iload_n 2, 1) := by decide +kernel
theorem dX0_stateOf_45 : decode cX0_stateOf 45 = .ok (.iconst 3, 1) := by decide +kernel
theorem dX0_stateOf_46 : decode cX0_stateOf 46 = .ok (.invokevirtual 48, 3) := by decide +kernel
theorem dX0_stateOf_49 : decode cX0_stateOf 49 = .ok (.iload_n 3, 1) := by decide +kernel
theorem dX0_stateOf_50 : decode cX0_stateOf 50 = .ok (.if_icmp .ne 7, 3) := by decide +kernel
theorem dX0_stateOf_53 : decode cX0_stateOf 53 = .ok (.iconst 1, 1) := by decide +kernel
theorem dX0_stateOf_54 : decode cX0_stateOf 54 = .ok (.goto 4, 3) := by decide +kernel
theorem dX0_stateOf_57 : decode cX0_stateOf 57 = .ok (.iconst 2, 1) := by decide +kernel
theorem dX0_stateOf_58 : decode cX0_stateOf 58 = .ok (.ireturn, 1) := by decide +kernel
theorem dX0_isEmpty_0 : decode cX0_isEmpty 0 = .ok (.iconst 0, 1) := by decide +kernel
theorem dX0_isEmpty_1 : decode cX0_isEmpty 1 = .ok (.istore_n 3, 1) := by decide +kernel
theorem dX0_isEmpty_2 : decode cX0_isEmpty 2 = .ok (.iload_n 3, 1) := by decide +kernel
theorem dX0_isEmpty_3 : decode cX0_isEmpty 3 = .ok (.iconst 4, 1) := by decide +kernel
theorem dX0_isEmpty_4 : decode cX0_isEmpty 4 = .ok (.if_icmp .ge 23, 3) := by decide +kernel
theorem dX0_isEmpty_7 : decode cX0_isEmpty 7 = .ok (.aload_n 0, 1) := by decide +kernel
theorem dX0_isEmpty_8 : decode cX0_isEmpty 8 = .ok (.iload_n 1, 1) := by decide +kernel
theorem dX0_isEmpty_9 : decode cX0_isEmpty 9 = .ok (.iload_n 2, 1) := by decide +kernel
theorem dX0_isEmpty_10 : decode cX0_isEmpty 10 = .ok (.iload_n 3, 1) := by decide +kernel
theorem dX0_isEmpty_11 : decode cX0_isEmpty 11 = .ok (.invokevirtual 48, 3) := by decide +kernel
theorem dX0_isEmpty_14 : decode cX0_isEmpty 14 = .ok (.ldc 25, 2) := by decide +kernel
theorem dX0_isEmpty_16 : decode cX0_isEmpty 16 = .ok (.if_icmp .eq 5, 3) := by decide +kernel
theorem dX0_isEmpty_19 : decode cX0_isEmpty 19 = .ok (.iconst 0, 1) := by decide +kernel
theorem dX0_isEmpty_20 : decode cX0_isEmpty 20 = .ok (.ireturn, 1) := by decide +kernel
theorem dX0_isEmpty_21 : decode cX0_isEmpty 21 = .ok (.iinc 3 1, 3) := by decide +kernel
theorem dX0_isEmpty_24 : decode cX0_isEmpty 24 = .ok (.goto (-22), 3) := by decide +kernel
theorem dX0_isEmpty_27 : decode cX0_isEmpty 27 = .ok (.iconst 1, 1) := by decide +kernel
theorem dX0_isEmpty_28 : decode cX0_isEmpty 28 = .ok (.ireturn, 1) := by decide +kernel
theorem dX0_tallyIn_0 : decode cX0_tallyIn 0 = .ok (.aload_n 0, 1) := by decide +kernel
theorem dX0_tallyIn_1 : decode cX0_tallyIn 1 = .ok (.iload_n 1, 1) := by decide +kernel
theorem dX0_tallyIn_2 : decode cX0_tallyIn 2 = .ok (.invokevirtual 56, 3) := by decide +kernel
theorem dX0_tallyIn_5 : decode cX0_tallyIn 5 = .ok (.ifCond .ne 5, 3) := by decide +kernel
theorem dX0_tallyIn_8 : decode cX0_tallyIn 8 = .ok (.iconst 0, 1) := by decide +kernel
theorem dX0_tallyIn_9 : decode cX0_tallyIn 9 = .ok (.ireturn, 1) := by decide +kernel
theorem dX0_tallyIn_10 : decode cX0_tallyIn 10 = .ok (.iconst 0, 1) := by decide +kernel
theorem dX0_tallyIn_11 : decode cX0_tallyIn 11 = .ok (.istore_n 3, 1) := by decide +kernel
theorem dX0_tallyIn_12 : decode cX0_tallyIn 12 = .ok (.iconst 0, 1) := by decide +kernel
theorem dX0_tallyIn_13 : decode cX0_tallyIn 13 = .ok (.istore 4, 2) := by decide +kernel
theorem dX0_tallyIn_15 : decode cX0_tallyIn 15 = .ok (.iload 4, 2) := by decide +kernel
theorem dX0_tallyIn_17 : decode cX0_tallyIn 17 = .ok (.iconst 4, 1) := by decide +kernel
theorem dX0_tallyIn_18 : decode cX0_tallyIn 18 = .ok (.if_icmp .ge 23, 3) := by decide +kernel
theorem dX0_tallyIn_21 : decode cX0_tallyIn 21 = .ok (.aload_n 0, 1) := by decide +kernel
theorem dX0_tallyIn_22 : decode cX0_tallyIn 22 = .ok (.iload_n 1, 1) := by decide +kernel
theorem dX0_tallyIn_23 : decode cX0_tallyIn 23 = .ok (.iload 4, 2) := by decide +kernel
theorem dX0_tallyIn_25 : decode cX0_tallyIn 25 = .ok (.invokevirtual 60, 3) := by decide +kernel
theorem dX0_tallyIn_28 : decode cX0_tallyIn 28 = .ok (.iload_n 2, 1) := by decide +kernel
theorem dX0_tallyIn_29 : decode cX0_tallyIn 29 = .ok (.if_icmp .ne 6, 3) := by decide +kernel
theorem dX0_tallyIn_32 : decode cX0_tallyIn 32 = .ok (.iinc 3 1, 3) := by decide +kernel
theorem dX0_tallyIn_35 : decode cX0_tallyIn 35 = .ok (.iinc 4 1, 3) := by decide +kernel
theorem dX0_tallyIn_38 : decode cX0_tallyIn 38 = .ok (.goto (-23), 3) := by decide +kernel
theorem dX0_tallyIn_41 : decode cX0_tallyIn 41 = .ok (.iload_n 3, 1) := by decide +kernel
theorem dX0_tallyIn_42 : decode cX0_tallyIn 42 = .ok (.ireturn, 1) := by decide +kernel
theorem dX0_tally_0 : decode cX0_tally 0 = .ok (.iconst 0, 1) := by decide +kernel
theorem dX0_tally_1 : decode cX0_tally 1 = .ok (.istore_n 2, 1) := by decide +kernel
theorem dX0_tally_2 : decode cX0_tally 2 = .ok (.iconst 0, 1) := by decide +kernel
theorem dX0_tally_3 : decode cX0_tally 3 = .ok (.istore_n 3, 1) := by decide +kernel
theorem dX0_tally_4 : decode cX0_tally 4 = .ok (.iload_n 3, 1) := by decide +kernel
theorem dX0_tally_5 : decode cX0_tally 5 = .ok (.iconst 5, 1) := by decide +kernel
theorem dX0_tally_6 : decode cX0_tally 6 = .ok (.if_icmp .ge 18, 3) := by decide +kernel
theorem dX0_tally_9 : decode cX0_tally 9 = .ok (.iload_n 2, 1) := by decide +kernel
theorem dX0_tally_10 : decode cX0_tally 10 = .ok (.aload_n 0, 1) := by decide +kernel
theorem dX0_tally_11 : decode cX0_tally 11 = .ok (.iload_n 3, 1) := by decide +kernel
theorem dX0_tally_12 : decode cX0_tally 12 = .ok (.iload_n 1, 1) := by decide +kernel
theorem dX0_tally_13 : decode cX0_tally 13 = .ok (.invokevirtual 63, 3) := by decide +kernel
theorem dX0_tally_16 : decode cX0_tally 16 = .ok (.iadd, 1) := by decide +kernel
theorem dX0_tally_17 : decode cX0_tally 17 = .ok (.istore_n 2, 1) := by decide +kernel
theorem dX0_tally_18 : decode cX0_tally 18 = .ok (.iinc 3 1, 3) := by decide +kernel
theorem dX0_tally_21 : decode cX0_tally 21 = .ok (.goto (-17), 3) := by decide +kernel
theorem dX0_tally_24 : decode cX0_tally 24 = .ok (.iload_n 2, 1) := by decide +kernel
theorem dX0_tally_25 : decode cX0_tally 25 = .ok (.ireturn, 1) := by decide +kernel
theorem dX0_newestBlock_0 : decode cX0_newestBlock 0 = .ok (.iconst 0, 1) := by decide +kernel
theorem dX0_newestBlock_1 : decode cX0_newestBlock 1 = .ok (.istore_n 1, 1) := by decide +kernel
theorem dX0_newestBlock_2 : decode cX0_newestBlock 2 = .ok (.iload_n 1, 1) := by decide +kernel
theorem dX0_newestBlock_3 : decode cX0_newestBlock 3 = .ok (.iconst 5, 1) := by decide +kernel
theorem dX0_newestBlock_4 : decode cX0_newestBlock 4 = .ok (.if_icmp .ge 27, 3) := by decide +kernel
theorem dX0_newestBlock_7 : decode cX0_newestBlock 7 = .ok (.aload_n 0, 1) := by decide +kernel
theorem dX0_newestBlock_8 : decode cX0_newestBlock 8 = .ok (.iload_n 1, 1) := by decide +kernel
theorem dX0_newestBlock_9 : decode cX0_newestBlock 9 = .ok (.invokevirtual 56, 3) := by decide +kernel
theorem dX0_newestBlock_12 : decode cX0_newestBlock 12 = .ok (.ifCond .eq 13, 3) := by decide +kernel
theorem dX0_newestBlock_15 : decode cX0_newestBlock 15 = .ok (.aload_n 0, 1) := by decide +kernel
theorem dX0_newestBlock_16 : decode cX0_newestBlock 16 = .ok (.iload_n 1, 1) := by decide +kernel
theorem dX0_newestBlock_17 : decode cX0_newestBlock 17 = .ok (.invokevirtual 66, 3) := by decide +kernel
theorem dX0_newestBlock_20 : decode cX0_newestBlock 20 = .ok (.ifCond .ne 5, 3) := by decide +kernel
theorem dX0_newestBlock_23 : decode cX0_newestBlock 23 = .ok (.iload_n 1, 1) := by decide +kernel
theorem dX0_newestBlock_24 : decode cX0_newestBlock 24 = .ok (.ireturn, 1) := by decide +kernel
theorem dX0_newestBlock_25 : decode cX0_newestBlock 25 = .ok (.iinc 1 1, 3) := by decide +kernel
theorem dX0_newestBlock_28 : decode cX0_newestBlock 28 = .ok (.goto (-26), 3) := by decide +kernel
theorem dX0_newestBlock_31 : decode cX0_newestBlock 31 = .ok (.iconst 0, 1) := by decide +kernel
theorem dX0_newestBlock_32 : decode cX0_newestBlock 32 = .ok (.ireturn, 1) := by decide +kernel
theorem dX0_isFollowed_0 : decode cX0_isFollowed 0 = .ok (.aload_n 0, 1) := by decide +kernel
theorem dX0_isFollowed_1 : decode cX0_isFollowed 1 = .ok (.iload_n 1, 1) := by decide +kernel
theorem dX0_isFollowed_2 : decode cX0_isFollowed 2 = .ok (.iconst 0, 1) := by decide +kernel
theorem dX0_isFollowed_3 : decode cX0_isFollowed 3 = .ok (.invokevirtual 36, 3) := by decide +kernel
theorem dX0_isFollowed_6 : decode cX0_isFollowed 6 = .ok (.iconst 1, 1) := by decide +kernel
theorem dX0_isFollowed_7 : decode cX0_isFollowed 7 = .ok (.iadd, 1) := by decide +kernel
theorem dX0_isFollowed_8 : decode cX0_isFollowed 8 = .ok (.sipush 10000, 3) := by decide +kernel
theorem dX0_isFollowed_11 : decode cX0_isFollowed 11 = .ok (.irem, 1) := by decide +kernel
theorem dX0_isFollowed_12 : decode cX0_isFollowed 12 = .ok (.istore_n 2, 1) := by decide +kernel
theorem dX0_isFollowed_13 : decode cX0_isFollowed 13 = .ok (.iconst 0, 1) := by decide +kernel
theorem dX0_isFollowed_14 : decode cX0_isFollowed 14 = .ok (.istore_n 3, 1) := by decide +kernel
theorem dX0_isFollowed_15 : decode cX0_isFollowed 15 = .ok (.iload_n 3, 1) := by decide +kernel
theorem dX0_isFollowed_16 : decode cX0_isFollowed 16 = .ok (.iconst 5, 1) := by decide +kernel
theorem dX0_isFollowed_17 : decode cX0_isFollowed 17 = .ok (.if_icmp .ge 29, 3) := by decide +kernel
theorem dX0_isFollowed_20 : decode cX0_isFollowed 20 = .ok (.aload_n 0, 1) := by decide +kernel
theorem dX0_isFollowed_21 : decode cX0_isFollowed 21 = .ok (.iload_n 3, 1) := by decide +kernel
theorem dX0_isFollowed_22 : decode cX0_isFollowed 22 = .ok (.iconst 0, 1) := by decide +kernel
theorem dX0_isFollowed_23 : decode cX0_isFollowed 23 = .ok (.invokevirtual 36, 3) := by decide +kernel
theorem dX0_isFollowed_26 : decode cX0_isFollowed 26 = .ok (.iload_n 2, 1) := by decide +kernel
theorem dX0_isFollowed_27 : decode cX0_isFollowed 27 = .ok (.if_icmp .ne 13, 3) := by decide +kernel
theorem dX0_isFollowed_30 : decode cX0_isFollowed 30 = .ok (.aload_n 0, 1) := by decide +kernel
theorem dX0_isFollowed_31 : decode cX0_isFollowed 31 = .ok (.iload_n 3, 1) := by decide +kernel
theorem dX0_isFollowed_32 : decode cX0_isFollowed 32 = .ok (.invokevirtual 56, 3) := by decide +kernel
theorem dX0_isFollowed_35 : decode cX0_isFollowed 35 = .ok (.ifCond .eq 5, 3) := by decide +kernel
theorem dX0_isFollowed_38 : decode cX0_isFollowed 38 = .ok (.iconst 1, 1) := by decide +kernel
theorem dX0_isFollowed_39 : decode cX0_isFollowed 39 = .ok (.ireturn, 1) := by decide +kernel
theorem dX0_isFollowed_40 : decode cX0_isFollowed 40 = .ok (.iinc 3 1, 3) := by decide +kernel
theorem dX0_isFollowed_43 : decode cX0_isFollowed 43 = .ok (.goto (-28), 3) := by decide +kernel
theorem dX0_isFollowed_46 : decode cX0_isFollowed 46 = .ok (.iconst 0, 1) := by decide +kernel
theorem dX0_isFollowed_47 : decode cX0_isFollowed 47 = .ok (.ireturn, 1) := by decide +kernel
theorem dX0_nextPlaceIn_0 : decode cX0_nextPlaceIn 0 = .ok (.iconst 4, 1) := by decide +kernel
theorem dX0_nextPlaceIn_1 : decode cX0_nextPlaceIn 1 = .ok (.istore_n 2, 1) := by decide +kernel
theorem dX0_nextPlaceIn_2 : decode cX0_nextPlaceIn 2 = .ok (.iload_n 2, 1) := by decide +kernel
theorem dX0_nextPlaceIn_3 : decode cX0_nextPlaceIn 3 = .ok (.ifCond .le 20, 3) := by decide +kernel
theorem dX0_nextPlaceIn_6 : decode cX0_nextPlaceIn 6 = .ok (.aload_n 0, 1) := by decide +kernel
theorem dX0_nextPlaceIn_7 : decode cX0_nextPlaceIn 7 = .ok (.iload_n 1, 1) := by decide +kernel
theorem dX0_nextPlaceIn_8 : decode cX0_nextPlaceIn 8 = .ok (.iload_n 2, 1) := by decide +kernel
theorem dX0_nextPlaceIn_9 : decode cX0_nextPlaceIn 9 = .ok (.iconst 1, 1) := by decide +kernel
theorem dX0_nextPlaceIn_10 : decode cX0_nextPlaceIn 10 = .ok (.isub, 1) := by decide +kernel
theorem dX0_nextPlaceIn_11 : decode cX0_nextPlaceIn 11 = .ok (.invokevirtual 44, 3) := by decide +kernel
theorem dX0_nextPlaceIn_14 : decode cX0_nextPlaceIn 14 = .ok (.ifCond .eq 9, 3) := by decide +kernel
theorem dX0_nextPlaceIn_17 : decode cX0_nextPlaceIn 17 = .ok (.iinc 2 (-1), 3) := by decide +kernel
theorem dX0_nextPlaceIn_20 : decode cX0_nextPlaceIn 20 = .ok (.goto (-18), 3) := by decide +kernel
theorem dX0_nextPlaceIn_23 : decode cX0_nextPlaceIn 23 = .ok (.iload_n 2, 1) := by decide +kernel
theorem dX0_nextPlaceIn_24 : decode cX0_nextPlaceIn 24 = .ok (.ireturn, 1) := by decide +kernel
theorem dX1_init_0 : decode cX1_init 0 = .ok (.aload_n 0, 1) := by decide +kernel
theorem dX1_init_1 : decode cX1_init 1 = .ok (.invokespecial 1, 3) := by decide +kernel
theorem dX1_init_4 : decode cX1_init 4 = .ok (.aload_n 0, 1) := by decide +kernel
theorem dX1_init_5 : decode cX1_init 5 = .ok (.new 7, 3) := by decide +kernel
theorem dX1_init_8 : decode cX1_init 8 = .ok (.dup, 1) := by decide +kernel
theorem dX1_init_9 : decode cX1_init 9 = .ok (.invokespecial 9, 3) := by decide +kernel
theorem dX1_init_12 : decode cX1_init 12 = .ok (.putfield 10, 3) := by decide +kernel
theorem dX1_init_15 : decode cX1_init 15 = .ok (.aload_n 0, 1) := by decide +kernel
theorem dX1_init_16 : decode cX1_init 16 = .ok (.iconst 0, 1) := by decide +kernel
theorem dX1_init_17 : decode cX1_init 17 = .ok (.putfield 16, 3) := by decide +kernel
theorem dX1_init_20 : decode cX1_init 20 = .ok (.return_, 1) := by decide +kernel
theorem dX1_store_0 : decode cX1_store 0 = .ok (.aload_n 0, 1) := by decide +kernel
theorem dX1_store_1 : decode cX1_store 1 = .ok (.getfield 10, 3) := by decide +kernel
theorem dX1_store_4 : decode cX1_store 4 = .ok (.aload_n 1, 1) := by decide +kernel
theorem dX1_store_5 : decode cX1_store 5 = .ok (.invokevirtual 20, 3) := by decide +kernel
theorem dX1_store_8 : decode cX1_store 8 = .ok (.aload_n 0, 1) := by decide +kernel
theorem dX1_store_9 : decode cX1_store 9 = .ok (.iconst 1, 1) := by decide +kernel
theorem dX1_store_10 : decode cX1_store 10 = .ok (.putfield 16, 3) := by decide +kernel
theorem dX1_store_13 : decode cX1_store 13 = .ok (.return_, 1) := by decide +kernel
theorem dX2_init_0 : decode cX2_init 0 = .ok (.aload_n 0, 1) := by decide +kernel
theorem dX2_init_1 : decode cX2_init 1 = .ok (.invokespecial 3, 3) := by decide +kernel
theorem dX2_init_4 : decode cX2_init 4 = .ok (.aload_n 0, 1) := by decide +kernel
theorem dX2_init_5 : decode cX2_init 5 = .ok (.bipush 120, 2) := by decide +kernel
theorem dX2_init_7 : decode cX2_init 7 = .ok (.newarray .int, 2) := by decide +kernel
theorem dX2_init_9 : decode cX2_init 9 = .ok (.putfield 9, 3) := by decide +kernel
theorem dX2_init_12 : decode cX2_init 12 = .ok (.aload_n 0, 1) := by decide +kernel
theorem dX2_init_13 : decode cX2_init 13 = .ok (.iconst 0, 1) := by decide +kernel
theorem dX2_init_14 : decode cX2_init 14 = .ok (.putfield 15, 3) := by decide +kernel
theorem dX2_init_17 : decode cX2_init 17 = .ok (.return_, 1) := by decide +kernel
theorem dX2_gather_0 : decode cX2_gather 0 = .ok (.aload_n 0, 1) := by decide +kernel
theorem dX2_gather_1 : decode cX2_gather 1 = .ok (.iconst 0, 1) := by decide +kernel
theorem dX2_gather_2 : decode cX2_gather 2 = .ok (.putfield 15, 3) := by decide +kernel
theorem dX2_gather_5 : decode cX2_gather 5 = .ok (.aload_n 1, 1) := by decide +kernel
theorem dX2_gather_6 : decode cX2_gather 6 = .ok (.invokevirtual 19, 3) := by decide +kernel
theorem dX2_gather_9 : decode cX2_gather 9 = .ok (.istore_n 2, 1) := by decide +kernel
theorem dX2_gather_10 : decode cX2_gather 10 = .ok (.iconst 1, 1) := by decide +kernel
theorem dX2_gather_11 : decode cX2_gather 11 = .ok (.istore_n 3, 1) := by decide +kernel
theorem dX2_gather_12 : decode cX2_gather 12 = .ok (.iload_n 3, 1) := by decide +kernel
theorem dX2_gather_13 : decode cX2_gather 13 = .ok (.iconst 5, 1) := by decide +kernel
theorem dX2_gather_14 : decode cX2_gather 14 = .ok (.if_icmp .gt 65, 3) := by decide +kernel
theorem dX2_gather_17 : decode cX2_gather 17 = .ok (.iload_n 2, 1) := by decide +kernel
theorem dX2_gather_18 : decode cX2_gather 18 = .ok (.iload_n 3, 1) := by decide +kernel
theorem dX2_gather_19 : decode cX2_gather 19 = .ok (.iadd, 1) := by decide +kernel
theorem dX2_gather_20 : decode cX2_gather 20 = .ok (.iconst 5, 1) := by decide +kernel
theorem dX2_gather_21 : decode cX2_gather 21 = .ok (.irem, 1) := by decide +kernel
theorem dX2_gather_22 : decode cX2_gather 22 = .ok (.istore 4, 2) := by decide +kernel
theorem dX2_gather_24 : decode cX2_gather 24 = .ok (.aload_n 1, 1) := by decide +kernel
theorem dX2_gather_25 : decode cX2_gather 25 = .ok (.iload 4, 2) := by decide +kernel
theorem dX2_gather_27 : decode cX2_gather 27 = .ok (.invokevirtual 25, 3) := by decide +kernel
theorem dX2_gather_30 : decode cX2_gather 30 = .ok (.istore 5, 2) := by decide +kernel
theorem dX2_gather_32 : decode cX2_gather 32 = .ok (.iconst 0, 1) := by decide +kernel
theorem dX2_gather_33 : decode cX2_gather 33 = .ok (.istore 6, 2) := by decide +kernel
theorem dX2_gather_35 : decode cX2_gather 35 = .ok (.iload 5, 2) := by decide +kernel
theorem dX2_gather_37 : decode cX2_gather 37 = .ok (.ifCond .eq 36, 3) := by decide +kernel
theorem dX2_gather_40 : decode cX2_gather 40 = .ok (.iload 6, 2) := by decide +kernel
theorem dX2_gather_42 : decode cX2_gather 42 = .ok (.iconst 4, 1) := by decide +kernel
theorem dX2_gather_43 : decode cX2_gather 43 = .ok (.if_icmp .ge 30, 3) := by decide +kernel
theorem dX2_gather_46 : decode cX2_gather 46 = .ok (.aload_n 1, 1) := by decide +kernel
theorem dX2_gather_47 : decode cX2_gather 47 = .ok (.iload 4, 2) := by decide +kernel
theorem dX2_gather_49 : decode cX2_gather 49 = .ok (.iload 6, 2) := by decide +kernel
theorem dX2_gather_51 : decode cX2_gather 51 = .ok (.invokevirtual 29, 3) := by decide +kernel
theorem dX2_gather_54 : decode cX2_gather 54 = .ok (.iconst 1, 1) := by decide +kernel
theorem dX2_gather_55 : decode cX2_gather 55 = .ok (.if_icmp .ne 12, 3) := by decide +kernel
theorem dX2_gather_58 : decode cX2_gather 58 = .ok (.aload_n 0, 1) := by decide +kernel
theorem dX2_gather_59 : decode cX2_gather 59 = .ok (.aload_n 1, 1) := by decide +kernel
theorem dX2_gather_60 : decode cX2_gather 60 = .ok (.iload 4, 2) := by decide +kernel
theorem dX2_gather_62 : decode cX2_gather 62 = .ok (.iload 6, 2) := by decide +kernel
theorem dX2_gather_64 : decode cX2_gather 64 = .ok (.invokevirtual 33, 3) := by decide +kernel
theorem dX2_gather_67 : decode cX2_gather 67 = .ok (.iinc 6 1, 3) := by decide +kernel
theorem dX2_gather_70 : decode cX2_gather 70 = .ok (.goto (-35), 3) := by decide +kernel
theorem dX2_gather_73 : decode cX2_gather 73 = .ok (.iinc 3 1, 3) := by decide +kernel
theorem dX2_gather_76 : decode cX2_gather 76 = .ok (.goto (-64), 3) := by decide +kernel
theorem dX2_gather_79 : decode cX2_gather 79 = .ok (.aload_n 0, 1) := by decide +kernel
theorem dX2_gather_80 : decode cX2_gather 80 = .ok (.areturn, 1) := by decide +kernel
theorem dX2_add_0 : decode cX2_add 0 = .ok (.aload_n 1, 1) := by decide +kernel
theorem dX2_add_1 : decode cX2_add 1 = .ok (.iload_n 2, 1) := by decide +kernel
theorem dX2_add_2 : decode cX2_add 2 = .ok (.iload_n 3, 1) := by decide +kernel
theorem dX2_add_3 : decode cX2_add 3 = .ok (.iconst 0, 1) := by decide +kernel
theorem dX2_add_4 : decode cX2_add 4 = .ok (.invokevirtual 37, 3) := by decide +kernel
theorem dX2_add_7 : decode cX2_add 7 = .ok (.istore 4, 2) := by decide +kernel
theorem dX2_add_9 : decode cX2_add 9 = .ok (.aload_n 0, 1) := by decide +kernel
theorem dX2_add_10 : decode cX2_add 10 = .ok (.iconst 0, 1) := by decide +kernel
theorem dX2_add_11 : decode cX2_add 11 = .ok (.iload 4, 2) := by decide +kernel
theorem dX2_add_13 : decode cX2_add 13 = .ok (.sipush 10000, 3) := by decide +kernel
theorem dX2_add_16 : decode cX2_add 16 = .ok (.irem, 1) := by decide +kernel
theorem dX2_add_17 : decode cX2_add 17 = .ok (.invokevirtual 41, 3) := by decide +kernel
theorem dX2_add_20 : decode cX2_add 20 = .ok (.aload_n 0, 1) := by decide +kernel
theorem dX2_add_21 : decode cX2_add 21 = .ok (.iconst 1, 1) := by decide +kernel
theorem dX2_add_22 : decode cX2_add 22 = .ok (.iload 4, 2) := by decide +kernel
theorem dX2_add_24 : decode cX2_add 24 = .ok (.sipush 10000, 3) := by decide +kernel
theorem dX2_add_27 : decode cX2_add 27 = .ok (.idiv, 1) := by decide +kernel
theorem dX2_add_28 : decode cX2_add 28 = .ok (.invokevirtual 41, 3) := by decide +kernel
theorem dX2_add_31 : decode cX2_add 31 = .ok (.aload_n 0, 1) := by decide +kernel
theorem dX2_add_32 : decode cX2_add 32 = .ok (.iconst 2, 1) := by decide +kernel
theorem dX2_add_33 : decode cX2_add 33 = .ok (.aload_n 1, 1) := by decide +kernel
theorem dX2_add_34 : decode cX2_add 34 = .ok (.iload_n 2, 1) := by decide +kernel
theorem dX2_add_35 : decode cX2_add 35 = .ok (.iload_n 3, 1) := by decide +kernel
theorem dX2_add_36 : decode cX2_add 36 = .ok (.iconst 1, 1) := by decide +kernel
theorem dX2_add_37 : decode cX2_add 37 = .ok (.invokevirtual 37, 3) := by decide +kernel
theorem dX2_add_40 : decode cX2_add 40 = .ok (.invokevirtual 41, 3) := by decide +kernel
theorem dX2_add_43 : decode cX2_add 43 = .ok (.aload_n 0, 1) := by decide +kernel
theorem dX2_add_44 : decode cX2_add 44 = .ok (.iconst 3, 1) := by decide +kernel
theorem dX2_add_45 : decode cX2_add 45 = .ok (.aload_n 1, 1) := by decide +kernel
theorem dX2_add_46 : decode cX2_add 46 = .ok (.iload_n 2, 1) := by decide +kernel
theorem dX2_add_47 : decode cX2_add 47 = .ok (.iload_n 3, 1) := by decide +kernel
theorem dX2_add_48 : decode cX2_add 48 = .ok (.iconst 2, 1) := by decide +kernel
theorem dX2_add_49 : decode cX2_add 49 = .ok (.invokevirtual 37, 3) := by decide +kernel
theorem dX2_add_52 : decode cX2_add 52 = .ok (.invokevirtual 41, 3) := by decide +kernel
theorem dX2_add_55 : decode cX2_add 55 = .ok (.aload_n 0, 1) := by decide +kernel
theorem dX2_add_56 : decode cX2_add 56 = .ok (.iconst 4, 1) := by decide +kernel
theorem dX2_add_57 : decode cX2_add 57 = .ok (.iload_n 2, 1) := by decide +kernel
theorem dX2_add_58 : decode cX2_add 58 = .ok (.invokevirtual 41, 3) := by decide +kernel
theorem dX2_add_61 : decode cX2_add 61 = .ok (.aload_n 0, 1) := by decide +kernel
theorem dX2_add_62 : decode cX2_add 62 = .ok (.iconst 5, 1) := by decide +kernel
theorem dX2_add_63 : decode cX2_add 63 = .ok (.iload_n 3, 1) := by decide +kernel
theorem dX2_add_64 : decode cX2_add 64 = .ok (.invokevirtual 41, 3) := by decide +kernel
theorem dX2_add_67 : decode cX2_add 67 = .ok (.aload_n 0, 1) := by decide +kernel
theorem dX2_add_68 : decode cX2_add 68 = .ok (.dup, 1) := by decide +kernel
theorem dX2_add_69 : decode cX2_add 69 = .ok (.getfield 15, 3) := by decide +kernel
theorem dX2_add_72 : decode cX2_add 72 = .ok (.iconst 1, 1) := by decide +kernel
theorem dX2_add_73 : decode cX2_add 73 = .ok (.iadd, 1) := by decide +kernel
theorem dX2_add_74 : decode cX2_add 74 = .ok (.putfield 15, 3) := by decide +kernel
theorem dX2_add_77 : decode cX2_add 77 = .ok (.return_, 1) := by decide +kernel
theorem dX2_setDetail_0 : decode cX2_setDetail 0 = .ok (.aload_n 0, 1) := by decide +kernel
theorem dX2_setDetail_1 : decode cX2_setDetail 1 = .ok (.getfield 15, 3) := by decide +kernel
theorem dX2_setDetail_4 : decode cX2_setDetail 4 = .ok (.bipush 6, 2) := by decide +kernel
theorem dX2_setDetail_6 : decode cX2_setDetail 6 = .ok (.imul, 1) := by decide +kernel
theorem dX2_setDetail_7 : decode cX2_setDetail 7 = .ok (.iload_n 1, 1) := by decide +kernel
theorem dX2_setDetail_8 : decode cX2_setDetail 8 = .ok (.iadd, 1) := by decide +kernel
theorem dX2_setDetail_9 : decode cX2_setDetail 9 = .ok (.istore_n 3, 1) := by decide +kernel
theorem dX2_setDetail_10 : decode cX2_setDetail 10 = .ok (.iload_n 3, 1) := by decide +kernel
theorem dX2_setDetail_11 : decode cX2_setDetail 11 = .ok (.ifCond .lt 19, 3) := by decide +kernel
theorem dX2_setDetail_14 : decode cX2_setDetail 14 = .ok (.iload_n 3, 1) := by decide +kernel
theorem dX2_setDetail_15 : decode cX2_setDetail 15 = .ok (.aload_n 0, 1) := by decide +kernel
theorem dX2_setDetail_16 : decode cX2_setDetail 16 = .ok (.getfield 9, 3) := by decide +kernel
theorem dX2_setDetail_19 : decode cX2_setDetail 19 = .ok (.arraylength, 1) := by decide +kernel
theorem dX2_setDetail_20 : decode cX2_setDetail 20 = .ok (.if_icmp .ge 10, 3) := by decide +kernel
theorem dX2_setDetail_23 : decode cX2_setDetail 23 = .ok (.aload_n 0, 1) := by decide +kernel
theorem dX2_setDetail_24 : decode cX2_setDetail 24 = .ok (.getfield 9, 3) := by decide +kernel
theorem dX2_setDetail_27 : decode cX2_setDetail 27 = .ok (.iload_n 3, 1) := by decide +kernel
theorem dX2_setDetail_28 : decode cX2_setDetail 28 = .ok (.iload_n 2, 1) := by decide +kernel
theorem dX2_setDetail_29 : decode cX2_setDetail 29 = .ok (.iastore, 1) := by decide +kernel
theorem dX2_setDetail_30 : decode cX2_setDetail 30 = .ok (.return_, 1) := by decide +kernel
theorem dX2_detail_0 : decode cX2_detail 0 = .ok (.iload_n 1, 1) := by decide +kernel
theorem dX2_detail_1 : decode cX2_detail 1 = .ok (.bipush 6, 2) := by decide +kernel
theorem dX2_detail_3 : decode cX2_detail 3 = .ok (.imul, 1) := by decide +kernel
theorem dX2_detail_4 : decode cX2_detail 4 = .ok (.iload_n 2, 1) := by decide +kernel
theorem dX2_detail_5 : decode cX2_detail 5 = .ok (.iadd, 1) := by decide +kernel
theorem dX2_detail_6 : decode cX2_detail 6 = .ok (.istore_n 3, 1) := by decide +kernel
theorem dX2_detail_7 : decode cX2_detail 7 = .ok (.iload_n 1, 1) := by decide +kernel
theorem dX2_detail_8 : decode cX2_detail 8 = .ok (.ifCond .lt 33, 3) := by decide +kernel
theorem dX2_detail_11 : decode cX2_detail 11 = .ok (.iload_n 1, 1) := by decide +kernel
theorem dX2_detail_12 : decode cX2_detail 12 = .ok (.aload_n 0, 1) := by decide +kernel
theorem dX2_detail_13 : decode cX2_detail 13 = .ok (.getfield 15, 3) := by decide +kernel
theorem dX2_detail_16 : decode cX2_detail 16 = .ok (.if_icmp .ge 25, 3) := by decide +kernel
theorem dX2_detail_19 : decode cX2_detail 19 = .ok (.iload_n 3, 1) := by decide +kernel
theorem dX2_detail_20 : decode cX2_detail 20 = .ok (.ifCond .lt 21, 3) := by decide +kernel
theorem dX2_detail_23 : decode cX2_detail 23 = .ok (.iload_n 3, 1) := by decide +kernel
theorem dX2_detail_24 : decode cX2_detail 24 = .ok (.aload_n 0, 1) := by decide +kernel
theorem dX2_detail_25 : decode cX2_detail 25 = .ok (.getfield 9, 3) := by decide +kernel
theorem dX2_detail_28 : decode cX2_detail 28 = .ok (.arraylength, 1) := by decide +kernel
theorem dX2_detail_29 : decode cX2_detail 29 = .ok (.if_icmp .ge 12, 3) := by decide +kernel
theorem dX2_detail_32 : decode cX2_detail 32 = .ok (.aload_n 0, 1) := by decide +kernel
theorem dX2_detail_33 : decode cX2_detail 33 = .ok (.getfield 9, 3) := by decide +kernel
theorem dX2_detail_36 : decode cX2_detail 36 = .ok (.iload_n 3, 1) := by decide +kernel
theorem dX2_detail_37 : decode cX2_detail 37 = .ok (.iaload, 1) := by decide +kernel
theorem dX2_detail_38 : decode cX2_detail 38 = .ok (.goto 5, 3) := by decide +kernel
theorem dX2_detail_41 : decode cX2_detail 41 = .ok (.bipush (-9), 2) := by decide +kernel
theorem dX2_detail_43 : decode cX2_detail 43 = .ok (.ireturn, 1) := by decide +kernel
theorem dX2_countOf_0 : decode cX2_countOf 0 = .ok (.iconst 0, 1) := by decide +kernel
theorem dX2_countOf_1 : decode cX2_countOf 1 = .ok (.istore_n 2, 1) := by decide +kernel
theorem dX2_countOf_2 : decode cX2_countOf 2 = .ok (.iconst 0, 1) := by decide +kernel
theorem dX2_countOf_3 : decode cX2_countOf 3 = .ok (.istore_n 3, 1) := by decide +kernel
theorem dX2_countOf_4 : decode cX2_countOf 4 = .ok (.iload_n 3, 1) := by decide +kernel
theorem dX2_countOf_5 : decode cX2_countOf 5 = .ok (.aload_n 0, 1) := by decide +kernel
theorem dX2_countOf_6 : decode cX2_countOf 6 = .ok (.getfield 15, 3) := by decide +kernel
theorem dX2_countOf_9 : decode cX2_countOf 9 = .ok (.if_icmp .ge 22, 3) := by decide +kernel
theorem dX2_countOf_12 : decode cX2_countOf 12 = .ok (.aload_n 0, 1) := by decide +kernel
theorem dX2_countOf_13 : decode cX2_countOf 13 = .ok (.iload_n 3, 1) := by decide +kernel
theorem dX2_countOf_14 : decode cX2_countOf 14 = .ok (.iconst 1, 1) := by decide +kernel
theorem dX2_countOf_15 : decode cX2_countOf 15 = .ok (.invokevirtual 45, 3) := by decide +kernel
theorem dX2_countOf_18 : decode cX2_countOf 18 = .ok (.iload_n 1, 1) := by decide +kernel
theorem dX2_countOf_19 : decode cX2_countOf 19 = .ok (.if_icmp .ne 6, 3) := by decide +kernel
theorem dX2_countOf_22 : decode cX2_countOf 22 = .ok (.iinc 2 1, 3) := by decide +kernel
theorem dX2_countOf_25 : decode cX2_countOf 25 = .ok (.iinc 3 1, 3) := by decide +kernel
theorem dX2_countOf_28 : decode cX2_countOf 28 = .ok (.goto (-24), 3) := by decide +kernel
theorem dX2_countOf_31 : decode cX2_countOf 31 = .ok (.iload_n 2, 1) := by decide +kernel
theorem dX2_countOf_32 : decode cX2_countOf 32 = .ok (.ireturn, 1) := by decide +kernel
theorem dX2_pricesOf_0 : decode cX2_pricesOf 0 = .ok (.iconst 0, 1) := by decide +kernel
theorem dX2_pricesOf_1 : decode cX2_pricesOf 1 = .ok (.istore_n 3, 1) := by decide +kernel
theorem dX2_pricesOf_2 : decode cX2_pricesOf 2 = .ok (.iconst 0, 1) := by decide +kernel
theorem dX2_pricesOf_3 : decode cX2_pricesOf 3 = .ok (.istore 4, 2) := by decide +kernel
theorem dX2_pricesOf_5 : decode cX2_pricesOf 5 = .ok (.iload 4, 2) := by decide +kernel
theorem dX2_pricesOf_7 : decode cX2_pricesOf 7 = .ok (.aload_n 0, 1) := by decide +kernel
theorem dX2_pricesOf_8 : decode cX2_pricesOf 8 = .ok (.getfield 15, 3) := by decide +kernel
theorem dX2_pricesOf_11 : decode cX2_pricesOf 11 = .ok (.if_icmp .ge 65, 3) := by decide +kernel
theorem dX2_pricesOf_14 : decode cX2_pricesOf 14 = .ok (.aload_n 0, 1) := by decide +kernel
theorem dX2_pricesOf_15 : decode cX2_pricesOf 15 = .ok (.iload 4, 2) := by decide +kernel
theorem dX2_pricesOf_17 : decode cX2_pricesOf 17 = .ok (.iconst 3, 1) := by decide +kernel
theorem dX2_pricesOf_18 : decode cX2_pricesOf 18 = .ok (.invokevirtual 45, 3) := by decide +kernel
theorem dX2_pricesOf_21 : decode cX2_pricesOf 21 = .ok (.istore 5, 2) := by decide +kernel
theorem dX2_pricesOf_23 : decode cX2_pricesOf 23 = .ok (.iload_n 2, 1) := by decide +kernel
theorem dX2_pricesOf_24 : decode cX2_pricesOf 24 = .ok (.iconst (-1), 1) := by decide +kernel
theorem dX2_pricesOf_25 : decode cX2_pricesOf 25 = .ok (.if_icmp .eq 13, 3) := by decide +kernel
theorem dX2_pricesOf_28 : decode cX2_pricesOf 28 = .ok (.iload 5, 2) := by decide +kernel
theorem dX2_pricesOf_30 : decode cX2_pricesOf 30 = .ok (.sipush 1000, 3) := by decide +kernel
theorem dX2_pricesOf_33 : decode cX2_pricesOf 33 = .ok (.idiv, 1) := by decide +kernel
theorem dX2_pricesOf_34 : decode cX2_pricesOf 34 = .ok (.iload_n 2, 1) := by decide +kernel
theorem dX2_pricesOf_35 : decode cX2_pricesOf 35 = .ok (.if_icmp .ne 7, 3) := by decide +kernel
theorem dX2_pricesOf_38 : decode cX2_pricesOf 38 = .ok (.iconst 1, 1) := by decide +kernel
theorem dX2_pricesOf_39 : decode cX2_pricesOf 39 = .ok (.goto 4, 3) := by decide +kernel
theorem dX2_pricesOf_42 : decode cX2_pricesOf 42 = .ok (.iconst 0, 1) := by decide +kernel
theorem dX2_pricesOf_43 : decode cX2_pricesOf 43 = .ok (.istore 6, 2) := by decide +kernel
theorem dX2_pricesOf_45 : decode cX2_pricesOf 45 = .ok (.iload 6, 2) := by decide +kernel
theorem dX2_pricesOf_47 : decode cX2_pricesOf 47 = .ok (.ifCond .eq 23, 3) := by decide +kernel
theorem dX2_pricesOf_50 : decode cX2_pricesOf 50 = .ok (.aload_n 0, 1) := by decide +kernel
theorem dX2_pricesOf_51 : decode cX2_pricesOf 51 = .ok (.iload 4, 2) := by decide +kernel
theorem dX2_pricesOf_53 : decode cX2_pricesOf 53 = .ok (.iconst 1, 1) := by decide +kernel
theorem dX2_pricesOf_54 : decode cX2_pricesOf 54 = .ok (.invokevirtual 45, 3) := by decide +kernel
theorem dX2_pricesOf_57 : decode cX2_pricesOf 57 = .ok (.iload_n 1, 1) := by decide +kernel
theorem dX2_pricesOf_58 : decode cX2_pricesOf 58 = .ok (.if_icmp .ne 12, 3) := by decide +kernel
theorem dX2_pricesOf_61 : decode cX2_pricesOf 61 = .ok (.iload_n 3, 1) := by decide +kernel
theorem dX2_pricesOf_62 : decode cX2_pricesOf 62 = .ok (.iload 5, 2) := by decide +kernel
theorem dX2_pricesOf_64 : decode cX2_pricesOf 64 = .ok (.sipush 1000, 3) := by decide +kernel
theorem dX2_pricesOf_67 : decode cX2_pricesOf 67 = .ok (.irem, 1) := by decide +kernel
theorem dX2_pricesOf_68 : decode cX2_pricesOf 68 = .ok (.iadd, 1) := by decide +kernel
theorem dX2_pricesOf_69 : decode cX2_pricesOf 69 = .ok (.istore_n 3, 1) := by decide +kernel
theorem dX2_pricesOf_70 : decode cX2_pricesOf 70 = .ok (.iinc 4 1, 3) := by decide +kernel
theorem dX2_pricesOf_73 : decode cX2_pricesOf 73 = .ok (.goto (-68), 3) := by decide +kernel
theorem dX2_pricesOf_76 : decode cX2_pricesOf 76 = .ok (.iload_n 3, 1) := by decide +kernel
theorem dX2_pricesOf_77 : decode cX2_pricesOf 77 = .ok (.ireturn, 1) := by decide +kernel
theorem dX3_init_0 : decode cX3_init 0 = .ok (.aload_n 0, 1) := by decide +kernel
theorem dX3_init_1 : decode cX3_init 1 = .ok (.invokespecial 3, 3) := by decide +kernel
theorem dX3_init_4 : decode cX3_init 4 = .ok (.aload_n 0, 1) := by decide +kernel
theorem dX3_init_5 : decode cX3_init 5 = .ok (.iconst 0, 1) := by decide +kernel
theorem dX3_init_6 : decode cX3_init 6 = .ok (.putfield 9, 3) := by decide +kernel
theorem dX3_init_9 : decode cX3_init 9 = .ok (.aload_n 0, 1) := by decide +kernel
theorem dX3_init_10 : decode cX3_init 10 = .ok (.iconst 0, 1) := by decide +kernel
theorem dX3_init_11 : decode cX3_init 11 = .ok (.putfield 15, 3) := by decide +kernel
theorem dX3_init_14 : decode cX3_init 14 = .ok (.aload_n 0, 1) := by decide +kernel
theorem dX3_init_15 : decode cX3_init 15 = .ok (.iconst 0, 1) := by decide +kernel
theorem dX3_init_16 : decode cX3_init 16 = .ok (.putfield 18, 3) := by decide +kernel
theorem dX3_init_19 : decode cX3_init 19 = .ok (.aload_n 0, 1) := by decide +kernel
theorem dX3_init_20 : decode cX3_init 20 = .ok (.iconst 0, 1) := by decide +kernel
theorem dX3_init_21 : decode cX3_init 21 = .ok (.putfield 21, 3) := by decide +kernel
theorem dX3_init_24 : decode cX3_init 24 = .ok (.aload_n 0, 1) := by decide +kernel
theorem dX3_init_25 : decode cX3_init 25 = .ok (.iconst 0, 1) := by decide +kernel
theorem dX3_init_26 : decode cX3_init 26 = .ok (.putfield 24, 3) := by decide +kernel
theorem dX3_init_29 : decode cX3_init 29 = .ok (.aload_n 0, 1) := by decide +kernel
theorem dX3_init_30 : decode cX3_init 30 = .ok (.iconst 0, 1) := by decide +kernel
theorem dX3_init_31 : decode cX3_init 31 = .ok (.putfield 27, 3) := by decide +kernel
theorem dX3_init_34 : decode cX3_init 34 = .ok (.return_, 1) := by decide +kernel
theorem dX3_copyFrom_0 : decode cX3_copyFrom 0 = .ok (.aload_n 0, 1) := by decide +kernel
theorem dX3_copyFrom_1 : decode cX3_copyFrom 1 = .ok (.aload_n 1, 1) := by decide +kernel
theorem dX3_copyFrom_2 : decode cX3_copyFrom 2 = .ok (.getfield 9, 3) := by decide +kernel
theorem dX3_copyFrom_5 : decode cX3_copyFrom 5 = .ok (.putfield 9, 3) := by decide +kernel
theorem dX3_copyFrom_8 : decode cX3_copyFrom 8 = .ok (.aload_n 0, 1) := by decide +kernel
theorem dX3_copyFrom_9 : decode cX3_copyFrom 9 = .ok (.aload_n 1, 1) := by decide +kernel
theorem dX3_copyFrom_10 : decode cX3_copyFrom 10 = .ok (.getfield 15, 3) := by decide +kernel
theorem dX3_copyFrom_13 : decode cX3_copyFrom 13 = .ok (.putfield 15, 3) := by decide +kernel
theorem dX3_copyFrom_16 : decode cX3_copyFrom 16 = .ok (.aload_n 0, 1) := by decide +kernel
theorem dX3_copyFrom_17 : decode cX3_copyFrom 17 = .ok (.aload_n 1, 1) := by decide +kernel
theorem dX3_copyFrom_18 : decode cX3_copyFrom 18 = .ok (.getfield 18, 3) := by decide +kernel
theorem dX3_copyFrom_21 : decode cX3_copyFrom 21 = .ok (.putfield 18, 3) := by decide +kernel
theorem dX3_copyFrom_24 : decode cX3_copyFrom 24 = .ok (.aload_n 0, 1) := by decide +kernel
theorem dX3_copyFrom_25 : decode cX3_copyFrom 25 = .ok (.aload_n 1, 1) := by decide +kernel
theorem dX3_copyFrom_26 : decode cX3_copyFrom 26 = .ok (.getfield 21, 3) := by decide +kernel
theorem dX3_copyFrom_29 : decode cX3_copyFrom 29 = .ok (.putfield 21, 3) := by decide +kernel
theorem dX3_copyFrom_32 : decode cX3_copyFrom 32 = .ok (.aload_n 0, 1) := by decide +kernel
theorem dX3_copyFrom_33 : decode cX3_copyFrom 33 = .ok (.aload_n 1, 1) := by decide +kernel
theorem dX3_copyFrom_34 : decode cX3_copyFrom 34 = .ok (.getfield 24, 3) := by decide +kernel
theorem dX3_copyFrom_37 : decode cX3_copyFrom 37 = .ok (.putfield 24, 3) := by decide +kernel
theorem dX3_copyFrom_40 : decode cX3_copyFrom 40 = .ok (.aload_n 0, 1) := by decide +kernel
theorem dX3_copyFrom_41 : decode cX3_copyFrom 41 = .ok (.aload_n 1, 1) := by decide +kernel
theorem dX3_copyFrom_42 : decode cX3_copyFrom 42 = .ok (.getfield 27, 3) := by decide +kernel
theorem dX3_copyFrom_45 : decode cX3_copyFrom 45 = .ok (.putfield 27, 3) := by decide +kernel
theorem dX3_copyFrom_48 : decode cX3_copyFrom 48 = .ok (.return_, 1) := by decide +kernel
theorem dX3_forget_0 : decode cX3_forget 0 = .ok (.aload_n 0, 1) := by decide +kernel
theorem dX3_forget_1 : decode cX3_forget 1 = .ok (.iconst 0, 1) := by decide +kernel
theorem dX3_forget_2 : decode cX3_forget 2 = .ok (.putfield 9, 3) := by decide +kernel
theorem dX3_forget_5 : decode cX3_forget 5 = .ok (.aload_n 0, 1) := by decide +kernel
theorem dX3_forget_6 : decode cX3_forget 6 = .ok (.iconst 0, 1) := by decide +kernel
theorem dX3_forget_7 : decode cX3_forget 7 = .ok (.putfield 15, 3) := by decide +kernel
theorem dX3_forget_10 : decode cX3_forget 10 = .ok (.aload_n 0, 1) := by decide +kernel
theorem dX3_forget_11 : decode cX3_forget 11 = .ok (.iconst 0, 1) := by decide +kernel
theorem dX3_forget_12 : decode cX3_forget 12 = .ok (.putfield 18, 3) := by decide +kernel
theorem dX3_forget_15 : decode cX3_forget 15 = .ok (.aload_n 0, 1) := by decide +kernel
theorem dX3_forget_16 : decode cX3_forget 16 = .ok (.iconst 0, 1) := by decide +kernel
theorem dX3_forget_17 : decode cX3_forget 17 = .ok (.putfield 21, 3) := by decide +kernel
theorem dX3_forget_20 : decode cX3_forget 20 = .ok (.aload_n 0, 1) := by decide +kernel
theorem dX3_forget_21 : decode cX3_forget 21 = .ok (.iconst 0, 1) := by decide +kernel
theorem dX3_forget_22 : decode cX3_forget 22 = .ok (.putfield 24, 3) := by decide +kernel
theorem dX3_forget_25 : decode cX3_forget 25 = .ok (.aload_n 0, 1) := by decide +kernel
theorem dX3_forget_26 : decode cX3_forget 26 = .ok (.iconst 0, 1) := by decide +kernel
theorem dX3_forget_27 : decode cX3_forget 27 = .ok (.putfield 27, 3) := by decide +kernel
theorem dX3_forget_30 : decode cX3_forget 30 = .ok (.return_, 1) := by decide +kernel
theorem dX3_recall_0 : decode cX3_recall 0 = .ok (.aload_n 0, 1) := by decide +kernel
theorem dX3_recall_1 : decode cX3_recall 1 = .ok (.aload_n 1, 1) := by decide +kernel
theorem dX3_recall_2 : decode cX3_recall 2 = .ok (.invokevirtual 30, 3) := by decide +kernel
theorem dX3_recall_5 : decode cX3_recall 5 = .ok (.putfield 9, 3) := by decide +kernel
theorem dX3_recall_8 : decode cX3_recall 8 = .ok (.aload_n 0, 1) := by decide +kernel
theorem dX3_recall_9 : decode cX3_recall 9 = .ok (.aload_n 1, 1) := by decide +kernel
theorem dX3_recall_10 : decode cX3_recall 10 = .ok (.aload_n 0, 1) := by decide +kernel
theorem dX3_recall_11 : decode cX3_recall 11 = .ok (.getfield 9, 3) := by decide +kernel
theorem dX3_recall_14 : decode cX3_recall 14 = .ok (.invokevirtual 36, 3) := by decide +kernel
theorem dX3_recall_17 : decode cX3_recall 17 = .ok (.putfield 15, 3) := by decide +kernel
theorem dX3_recall_20 : decode cX3_recall 20 = .ok (.aload_n 0, 1) := by decide +kernel
theorem dX3_recall_21 : decode cX3_recall 21 = .ok (.aload_n 1, 1) := by decide +kernel
theorem dX3_recall_22 : decode cX3_recall 22 = .ok (.aload_n 0, 1) := by decide +kernel
theorem dX3_recall_23 : decode cX3_recall 23 = .ok (.getfield 9, 3) := by decide +kernel
theorem dX3_recall_26 : decode cX3_recall 26 = .ok (.iconst 1, 1) := by decide +kernel
theorem dX3_recall_27 : decode cX3_recall 27 = .ok (.invokevirtual 40, 3) := by decide +kernel
theorem dX3_recall_30 : decode cX3_recall 30 = .ok (.putfield 21, 3) := by decide +kernel
theorem dX3_recall_33 : decode cX3_recall 33 = .ok (.aload_n 0, 1) := by decide +kernel
theorem dX3_recall_34 : decode cX3_recall 34 = .ok (.aload_n 1, 1) := by decide +kernel
theorem dX3_recall_35 : decode cX3_recall 35 = .ok (.aload_n 0, 1) := by decide +kernel
theorem dX3_recall_36 : decode cX3_recall 36 = .ok (.getfield 9, 3) := by decide +kernel
theorem dX3_recall_39 : decode cX3_recall 39 = .ok (.iconst 2, 1) := by decide +kernel
theorem dX3_recall_40 : decode cX3_recall 40 = .ok (.invokevirtual 40, 3) := by decide +kernel
theorem dX3_recall_43 : decode cX3_recall 43 = .ok (.putfield 24, 3) := by decide +kernel
theorem dX3_recall_46 : decode cX3_recall 46 = .ok (.aload_n 0, 1) := by decide +kernel
theorem dX3_recall_47 : decode cX3_recall 47 = .ok (.aload_n 1, 1) := by decide +kernel
theorem dX3_recall_48 : decode cX3_recall 48 = .ok (.aload_n 0, 1) := by decide +kernel
theorem dX3_recall_49 : decode cX3_recall 49 = .ok (.getfield 9, 3) := by decide +kernel
theorem dX3_recall_52 : decode cX3_recall 52 = .ok (.iconst 3, 1) := by decide +kernel
theorem dX3_recall_53 : decode cX3_recall 53 = .ok (.invokevirtual 40, 3) := by decide +kernel
theorem dX3_recall_56 : decode cX3_recall 56 = .ok (.putfield 27, 3) := by decide +kernel
theorem dX3_recall_59 : decode cX3_recall 59 = .ok (.aload_n 0, 1) := by decide +kernel
theorem dX3_recall_60 : decode cX3_recall 60 = .ok (.aload_n 1, 1) := by decide +kernel
theorem dX3_recall_61 : decode cX3_recall 61 = .ok (.aload_n 0, 1) := by decide +kernel
theorem dX3_recall_62 : decode cX3_recall 62 = .ok (.getfield 9, 3) := by decide +kernel
theorem dX3_recall_65 : decode cX3_recall 65 = .ok (.iconst 4, 1) := by decide +kernel
theorem dX3_recall_66 : decode cX3_recall 66 = .ok (.invokevirtual 40, 3) := by decide +kernel
theorem dX3_recall_69 : decode cX3_recall 69 = .ok (.putfield 18, 3) := by decide +kernel
theorem dX3_recall_72 : decode cX3_recall 72 = .ok (.iconst 0, 1) := by decide +kernel
theorem dX3_recall_73 : decode cX3_recall 73 = .ok (.istore_n 2, 1) := by decide +kernel
theorem dX3_recall_74 : decode cX3_recall 74 = .ok (.iload_n 2, 1) := by decide +kernel
theorem dX3_recall_75 : decode cX3_recall 75 = .ok (.iconst 4, 1) := by decide +kernel
theorem dX3_recall_76 : decode cX3_recall 76 = .ok (.if_icmp .ge 46, 3) := by decide +kernel
theorem dX3_recall_79 : decode cX3_recall 79 = .ok (.aload_n 1, 1) := by decide +kernel
theorem dX3_recall_80 : decode cX3_recall 80 = .ok (.aload_n 0, 1) := by decide +kernel
theorem dX3_recall_81 : decode cX3_recall 81 = .ok (.getfield 9, 3) := by decide +kernel
theorem dX3_recall_84 : decode cX3_recall 84 = .ok (.iload_n 2, 1) := by decide +kernel
theorem dX3_recall_85 : decode cX3_recall 85 = .ok (.invokevirtual 44, 3) := by decide +kernel
theorem dX3_recall_88 : decode cX3_recall 88 = .ok (.iconst 1, 1) := by decide +kernel
theorem dX3_recall_89 : decode cX3_recall 89 = .ok (.if_icmp .ne 27, 3) := by decide +kernel
theorem dX3_recall_92 : decode cX3_recall 92 = .ok (.aload_n 0, 1) := by decide +kernel
theorem dX3_recall_93 : decode cX3_recall 93 = .ok (.aload_n 1, 1) := by decide +kernel
theorem dX3_recall_94 : decode cX3_recall 94 = .ok (.aload_n 0, 1) := by decide +kernel
theorem dX3_recall_95 : decode cX3_recall 95 = .ok (.getfield 9, 3) := by decide +kernel
theorem dX3_recall_98 : decode cX3_recall 98 = .ok (.iload_n 2, 1) := by decide +kernel
theorem dX3_recall_99 : decode cX3_recall 99 = .ok (.iconst 0, 1) := by decide +kernel
theorem dX3_recall_100 : decode cX3_recall 100 = .ok (.invokevirtual 47, 3) := by decide +kernel
theorem dX3_recall_103 : decode cX3_recall 103 = .ok (.aload_n 1, 1) := by decide +kernel
theorem dX3_recall_104 : decode cX3_recall 104 = .ok (.aload_n 0, 1) := by decide +kernel
theorem dX3_recall_105 : decode cX3_recall 105 = .ok (.getfield 9, 3) := by decide +kernel
theorem dX3_recall_108 : decode cX3_recall 108 = .ok (.iload_n 2, 1) := by decide +kernel
theorem dX3_recall_109 : decode cX3_recall 109 = .ok (.iconst 2, 1) := by decide +kernel
theorem dX3_recall_110 : decode cX3_recall 110 = .ok (.invokevirtual 47, 3) := by decide +kernel
theorem dX3_recall_113 : decode cX3_recall 113 = .ok (.invokevirtual 51, 3) := by decide +kernel
theorem dX3_recall_116 : decode cX3_recall 116 = .ok (.iinc 2 1, 3) := by decide +kernel
theorem dX3_recall_119 : decode cX3_recall 119 = .ok (.goto (-45), 3) := by decide +kernel
theorem dX3_recall_122 : decode cX3_recall 122 = .ok (.return_, 1) := by decide +kernel
theorem dX3_learn_0 : decode cX3_learn 0 = .ok (.aload_n 0, 1) := by decide +kernel
theorem dX3_learn_1 : decode cX3_learn 1 = .ok (.iload_n 1, 1) := by decide +kernel
theorem dX3_learn_2 : decode cX3_learn 2 = .ok (.sipush 10000, 3) := by decide +kernel
theorem dX3_learn_5 : decode cX3_learn 5 = .ok (.irem, 1) := by decide +kernel
theorem dX3_learn_6 : decode cX3_learn 6 = .ok (.iconst 1, 1) := by decide +kernel
theorem dX3_learn_7 : decode cX3_learn 7 = .ok (.iadd, 1) := by decide +kernel
theorem dX3_learn_8 : decode cX3_learn 8 = .ok (.sipush 10000, 3) := by decide +kernel
theorem dX3_learn_11 : decode cX3_learn 11 = .ok (.irem, 1) := by decide +kernel
theorem dX3_learn_12 : decode cX3_learn 12 = .ok (.putfield 18, 3) := by decide +kernel
theorem dX3_learn_15 : decode cX3_learn 15 = .ok (.iload_n 2, 1) := by decide +kernel
theorem dX3_learn_16 : decode cX3_learn 16 = .ok (.sipush 1000, 3) := by decide +kernel
theorem dX3_learn_19 : decode cX3_learn 19 = .ok (.irem, 1) := by decide +kernel
theorem dX3_learn_20 : decode cX3_learn 20 = .ok (.istore_n 3, 1) := by decide +kernel
theorem dX3_learn_21 : decode cX3_learn 21 = .ok (.iload_n 1, 1) := by decide +kernel
theorem dX3_learn_22 : decode cX3_learn 22 = .ok (.sipush 10000, 3) := by decide +kernel
theorem dX3_learn_25 : decode cX3_learn 25 = .ok (.idiv, 1) := by decide +kernel
theorem dX3_learn_26 : decode cX3_learn 26 = .ok (.tableswitch 118 0 4 #[34, 74, 118, 97, 110], 34) := by decide +kernel
theorem dX3_learn_60 : decode cX3_learn 60 = .ok (.aload_n 0, 1) := by decide +kernel
theorem dX3_learn_61 : decode cX3_learn 61 = .ok (.dup, 1) := by decide +kernel
theorem dX3_learn_62 : decode cX3_learn 62 = .ok (.getfield 21, 3) := by decide +kernel
theorem dX3_learn_65 : decode cX3_learn 65 = .ok (.iload_n 3, 1) := by decide +kernel
theorem dX3_learn_66 : decode cX3_learn 66 = .ok (.iadd, 1) := by decide +kernel
theorem dX3_learn_67 : decode cX3_learn 67 = .ok (.putfield 21, 3) := by decide +kernel
theorem dX3_learn_70 : decode cX3_learn 70 = .ok (.aload_n 0, 1) := by decide +kernel
theorem dX3_learn_71 : decode cX3_learn 71 = .ok (.dup, 1) := by decide +kernel
theorem dX3_learn_72 : decode cX3_learn 72 = .ok (.getfield 24, 3) := by decide +kernel
theorem dX3_learn_75 : decode cX3_learn 75 = .ok (.iconst 1, 1) := by decide +kernel
theorem dX3_learn_76 : decode cX3_learn 76 = .ok (.iadd, 1) := by decide +kernel
theorem dX3_learn_77 : decode cX3_learn 77 = .ok (.putfield 24, 3) := by decide +kernel
theorem dX3_learn_80 : decode cX3_learn 80 = .ok (.aload_n 0, 1) := by decide +kernel
theorem dX3_learn_81 : decode cX3_learn 81 = .ok (.dup, 1) := by decide +kernel
theorem dX3_learn_82 : decode cX3_learn 82 = .ok (.getfield 27, 3) := by decide +kernel
theorem dX3_learn_85 : decode cX3_learn 85 = .ok (.iload_n 2, 1) := by decide +kernel
theorem dX3_learn_86 : decode cX3_learn 86 = .ok (.sipush 1000, 3) := by decide +kernel
theorem dX3_learn_89 : decode cX3_learn 89 = .ok (.idiv, 1) := by decide +kernel
theorem dX3_learn_90 : decode cX3_learn 90 = .ok (.invokestatic 55, 3) := by decide +kernel
theorem dX3_learn_93 : decode cX3_learn 93 = .ok (.isub, 1) := by decide +kernel
theorem dX3_learn_94 : decode cX3_learn 94 = .ok (.putfield 27, 3) := by decide +kernel
theorem dX3_learn_97 : decode cX3_learn 97 = .ok (.goto 47, 3) := by decide +kernel
theorem dX3_learn_100 : decode cX3_learn 100 = .ok (.aload_n 0, 1) := by decide +kernel
theorem dX3_learn_101 : decode cX3_learn 101 = .ok (.dup, 1) := by decide +kernel
theorem dX3_learn_102 : decode cX3_learn 102 = .ok (.getfield 21, 3) := by decide +kernel
theorem dX3_learn_105 : decode cX3_learn 105 = .ok (.iload_n 3, 1) := by decide +kernel
theorem dX3_learn_106 : decode cX3_learn 106 = .ok (.isub, 1) := by decide +kernel
theorem dX3_learn_107 : decode cX3_learn 107 = .ok (.putfield 21, 3) := by decide +kernel
theorem dX3_learn_110 : decode cX3_learn 110 = .ok (.aload_n 0, 1) := by decide +kernel
theorem dX3_learn_111 : decode cX3_learn 111 = .ok (.dup, 1) := by decide +kernel
theorem dX3_learn_112 : decode cX3_learn 112 = .ok (.getfield 24, 3) := by decide +kernel
theorem dX3_learn_115 : decode cX3_learn 115 = .ok (.iconst 1, 1) := by decide +kernel
theorem dX3_learn_116 : decode cX3_learn 116 = .ok (.isub, 1) := by decide +kernel
theorem dX3_learn_117 : decode cX3_learn 117 = .ok (.putfield 24, 3) := by decide +kernel
theorem dX3_learn_120 : decode cX3_learn 120 = .ok (.goto 24, 3) := by decide +kernel
theorem dX3_learn_123 : decode cX3_learn 123 = .ok (.aload_n 0, 1) := by decide +kernel
theorem dX3_learn_124 : decode cX3_learn 124 = .ok (.iconst 0, 1) := by decide +kernel
theorem dX3_learn_125 : decode cX3_learn 125 = .ok (.putfield 21, 3) := by decide +kernel
theorem dX3_learn_128 : decode cX3_learn 128 = .ok (.aload_n 0, 1) := by decide +kernel
theorem dX3_learn_129 : decode cX3_learn 129 = .ok (.iconst 0, 1) := by decide +kernel
theorem dX3_learn_130 : decode cX3_learn 130 = .ok (.putfield 24, 3) := by decide +kernel
theorem dX3_learn_133 : decode cX3_learn 133 = .ok (.goto 11, 3) := by decide +kernel
theorem dX3_learn_136 : decode cX3_learn 136 = .ok (.aload_n 0, 1) := by decide +kernel
theorem dX3_learn_137 : decode cX3_learn 137 = .ok (.iload_n 2, 1) := by decide +kernel
theorem dX3_learn_138 : decode cX3_learn 138 = .ok (.putfield 27, 3) := by decide +kernel
theorem dX3_learn_141 : decode cX3_learn 141 = .ok (.goto 3, 3) := by decide +kernel
theorem dX3_learn_144 : decode cX3_learn 144 = .ok (.return_, 1) := by decide +kernel
theorem dX4_init_0 : decode cX4_init 0 = .ok (.aload_n 0, 1) := by decide +kernel
theorem dX4_init_1 : decode cX4_init 1 = .ok (.invokespecial 3, 3) := by decide +kernel
theorem dX4_init_4 : decode cX4_init 4 = .ok (.aload_n 0, 1) := by decide +kernel
theorem dX4_init_5 : decode cX4_init 5 = .ok (.bipush 8, 2) := by decide +kernel
theorem dX4_init_7 : decode cX4_init 7 = .ok (.anewarray 9, 3) := by decide +kernel
theorem dX4_init_10 : decode cX4_init 10 = .ok (.putfield 11, 3) := by decide +kernel
theorem dX4_init_13 : decode cX4_init 13 = .ok (.aload_n 0, 1) := by decide +kernel
theorem dX4_init_14 : decode cX4_init 14 = .ok (.iconst 0, 1) := by decide +kernel
theorem dX4_init_15 : decode cX4_init 15 = .ok (.putfield 17, 3) := by decide +kernel
theorem dX4_init_18 : decode cX4_init 18 = .ok (.aload_n 0, 1) := by decide +kernel
theorem dX4_init_19 : decode cX4_init 19 = .ok (.iconst 0, 1) := by decide +kernel
theorem dX4_init_20 : decode cX4_init 20 = .ok (.putfield 21, 3) := by decide +kernel
theorem dX4_init_23 : decode cX4_init 23 = .ok (.iconst 0, 1) := by decide +kernel
theorem dX4_init_24 : decode cX4_init 24 = .ok (.istore_n 1, 1) := by decide +kernel
theorem dX4_init_25 : decode cX4_init 25 = .ok (.iload_n 1, 1) := by decide +kernel
theorem dX4_init_26 : decode cX4_init 26 = .ok (.aload_n 0, 1) := by decide +kernel
theorem dX4_init_27 : decode cX4_init 27 = .ok (.getfield 11, 3) := by decide +kernel
theorem dX4_init_30 : decode cX4_init 30 = .ok (.arraylength, 1) := by decide +kernel
theorem dX4_init_31 : decode cX4_init 31 = .ok (.if_icmp .ge 22, 3) := by decide +kernel
theorem dX4_init_34 : decode cX4_init 34 = .ok (.aload_n 0, 1) := by decide +kernel
theorem dX4_init_35 : decode cX4_init 35 = .ok (.getfield 11, 3) := by decide +kernel
theorem dX4_init_38 : decode cX4_init 38 = .ok (.iload_n 1, 1) := by decide +kernel
theorem dX4_init_39 : decode cX4_init 39 = .ok (.new 9, 3) := by decide +kernel
theorem dX4_init_42 : decode cX4_init 42 = .ok (.dup, 1) := by decide +kernel
theorem dX4_init_43 : decode cX4_init 43 = .ok (.invokespecial 24, 3) := by decide +kernel
theorem dX4_init_46 : decode cX4_init 46 = .ok (.aastore, 1) := by decide +kernel
theorem dX4_init_47 : decode cX4_init 47 = .ok (.iinc 1 1, 3) := by decide +kernel
theorem dX4_init_50 : decode cX4_init 50 = .ok (.goto (-25), 3) := by decide +kernel
theorem dX4_init_53 : decode cX4_init 53 = .ok (.return_, 1) := by decide +kernel
theorem dX4_remember_0 : decode cX4_remember 0 = .ok (.aload_n 0, 1) := by decide +kernel
theorem dX4_remember_1 : decode cX4_remember 1 = .ok (.getfield 21, 3) := by decide +kernel
theorem dX4_remember_4 : decode cX4_remember 4 = .ok (.bipush 8, 2) := by decide +kernel
theorem dX4_remember_6 : decode cX4_remember 6 = .ok (.if_icmp .ne 26, 3) := by decide +kernel
theorem dX4_remember_9 : decode cX4_remember 9 = .ok (.aload_n 0, 1) := by decide +kernel
theorem dX4_remember_10 : decode cX4_remember 10 = .ok (.aload_n 0, 1) := by decide +kernel
theorem dX4_remember_11 : decode cX4_remember 11 = .ok (.getfield 17, 3) := by decide +kernel
theorem dX4_remember_14 : decode cX4_remember 14 = .ok (.iconst 1, 1) := by decide +kernel
theorem dX4_remember_15 : decode cX4_remember 15 = .ok (.iadd, 1) := by decide +kernel
theorem dX4_remember_16 : decode cX4_remember 16 = .ok (.bipush 8, 2) := by decide +kernel
theorem dX4_remember_18 : decode cX4_remember 18 = .ok (.irem, 1) := by decide +kernel
theorem dX4_remember_19 : decode cX4_remember 19 = .ok (.putfield 17, 3) := by decide +kernel
theorem dX4_remember_22 : decode cX4_remember 22 = .ok (.aload_n 0, 1) := by decide +kernel
theorem dX4_remember_23 : decode cX4_remember 23 = .ok (.dup, 1) := by decide +kernel
theorem dX4_remember_24 : decode cX4_remember 24 = .ok (.getfield 21, 3) := by decide +kernel
theorem dX4_remember_27 : decode cX4_remember 27 = .ok (.iconst 1, 1) := by decide +kernel
theorem dX4_remember_28 : decode cX4_remember 28 = .ok (.isub, 1) := by decide +kernel
theorem dX4_remember_29 : decode cX4_remember 29 = .ok (.putfield 21, 3) := by decide +kernel
theorem dX4_remember_32 : decode cX4_remember 32 = .ok (.aload_n 0, 1) := by decide +kernel
theorem dX4_remember_33 : decode cX4_remember 33 = .ok (.aload_n 0, 1) := by decide +kernel
theorem dX4_remember_34 : decode cX4_remember 34 = .ok (.getfield 17, 3) := by decide +kernel
theorem dX4_remember_37 : decode cX4_remember 37 = .ok (.aload_n 0, 1) := by decide +kernel
theorem dX4_remember_38 : decode cX4_remember 38 = .ok (.getfield 21, 3) := by decide +kernel
theorem dX4_remember_41 : decode cX4_remember 41 = .ok (.iadd, 1) := by decide +kernel
theorem dX4_remember_42 : decode cX4_remember 42 = .ok (.invokevirtual 25, 3) := by decide +kernel
theorem dX4_remember_45 : decode cX4_remember 45 = .ok (.astore_n 2, 1) := by decide +kernel
theorem dX4_remember_46 : decode cX4_remember 46 = .ok (.aload_n 2, 1) := by decide +kernel
theorem dX4_remember_47 : decode cX4_remember 47 = .ok (.ifnull 18, 3) := by decide +kernel
theorem dX4_remember_50 : decode cX4_remember 50 = .ok (.aload_n 2, 1) := by decide +kernel
theorem dX4_remember_51 : decode cX4_remember 51 = .ok (.aload_n 1, 1) := by decide +kernel
theorem dX4_remember_52 : decode cX4_remember 52 = .ok (.invokevirtual 29, 3) := by decide +kernel
theorem dX4_remember_55 : decode cX4_remember 55 = .ok (.aload_n 0, 1) := by decide +kernel
theorem dX4_remember_56 : decode cX4_remember 56 = .ok (.dup, 1) := by decide +kernel
theorem dX4_remember_57 : decode cX4_remember 57 = .ok (.getfield 21, 3) := by decide +kernel
theorem dX4_remember_60 : decode cX4_remember 60 = .ok (.iconst 1, 1) := by decide +kernel
theorem dX4_remember_61 : decode cX4_remember 61 = .ok (.iadd, 1) := by decide +kernel
theorem dX4_remember_62 : decode cX4_remember 62 = .ok (.putfield 21, 3) := by decide +kernel
theorem dX4_remember_65 : decode cX4_remember 65 = .ok (.return_, 1) := by decide +kernel
theorem dX4_restore_0 : decode cX4_restore 0 = .ok (.aload_n 0, 1) := by decide +kernel
theorem dX4_restore_1 : decode cX4_restore 1 = .ok (.getfield 21, 3) := by decide +kernel
theorem dX4_restore_4 : decode cX4_restore 4 = .ok (.ifCond .le 21, 3) := by decide +kernel
theorem dX4_restore_7 : decode cX4_restore 7 = .ok (.aload_n 0, 1) := by decide +kernel
theorem dX4_restore_8 : decode cX4_restore 8 = .ok (.aload_n 0, 1) := by decide +kernel
theorem dX4_restore_9 : decode cX4_restore 9 = .ok (.getfield 17, 3) := by decide +kernel
theorem dX4_restore_12 : decode cX4_restore 12 = .ok (.aload_n 0, 1) := by decide +kernel
theorem dX4_restore_13 : decode cX4_restore 13 = .ok (.getfield 21, 3) := by decide +kernel
theorem dX4_restore_16 : decode cX4_restore 16 = .ok (.iadd, 1) := by decide +kernel
theorem dX4_restore_17 : decode cX4_restore 17 = .ok (.iconst 1, 1) := by decide +kernel
theorem dX4_restore_18 : decode cX4_restore 18 = .ok (.isub, 1) := by decide +kernel
theorem dX4_restore_19 : decode cX4_restore 19 = .ok (.invokevirtual 25, 3) := by decide +kernel
theorem dX4_restore_22 : decode cX4_restore 22 = .ok (.goto 4, 3) := by decide +kernel
theorem dX4_restore_25 : decode cX4_restore 25 = .ok (.aconst_null, 1) := by decide +kernel
theorem dX4_restore_26 : decode cX4_restore 26 = .ok (.astore_n 2, 1) := by decide +kernel
theorem dX4_restore_27 : decode cX4_restore 27 = .ok (.aload_n 2, 1) := by decide +kernel
theorem dX4_restore_28 : decode cX4_restore 28 = .ok (.ifnull 18, 3) := by decide +kernel
theorem dX4_restore_31 : decode cX4_restore 31 = .ok (.aload_n 1, 1) := by decide +kernel
theorem dX4_restore_32 : decode cX4_restore 32 = .ok (.aload_n 2, 1) := by decide +kernel
theorem dX4_restore_33 : decode cX4_restore 33 = .ok (.invokevirtual 29, 3) := by decide +kernel
theorem dX4_restore_36 : decode cX4_restore 36 = .ok (.aload_n 0, 1) := by decide +kernel
theorem dX4_restore_37 : decode cX4_restore 37 = .ok (.dup, 1) := by decide +kernel
theorem dX4_restore_38 : decode cX4_restore 38 = .ok (.getfield 21, 3) := by decide +kernel
theorem dX4_restore_41 : decode cX4_restore 41 = .ok (.iconst 1, 1) := by decide +kernel
theorem dX4_restore_42 : decode cX4_restore 42 = .ok (.isub, 1) := by decide +kernel
theorem dX4_restore_43 : decode cX4_restore 43 = .ok (.putfield 21, 3) := by decide +kernel
theorem dX4_restore_46 : decode cX4_restore 46 = .ok (.return_, 1) := by decide +kernel
theorem dX4_stateAt_0 : decode cX4_stateAt 0 = .ok (.iload_n 1, 1) := by decide +kernel
theorem dX4_stateAt_1 : decode cX4_stateAt 1 = .ok (.bipush 8, 2) := by decide +kernel
theorem dX4_stateAt_3 : decode cX4_stateAt 3 = .ok (.irem, 1) := by decide +kernel
theorem dX4_stateAt_4 : decode cX4_stateAt 4 = .ok (.istore_n 2, 1) := by decide +kernel
theorem dX4_stateAt_5 : decode cX4_stateAt 5 = .ok (.iload_n 2, 1) := by decide +kernel
theorem dX4_stateAt_6 : decode cX4_stateAt 6 = .ok (.ifCond .lt 21, 3) := by decide +kernel
theorem dX4_stateAt_9 : decode cX4_stateAt 9 = .ok (.iload_n 2, 1) := by decide +kernel
theorem dX4_stateAt_10 : decode cX4_stateAt 10 = .ok (.aload_n 0, 1) := by decide +kernel
theorem dX4_stateAt_11 : decode cX4_stateAt 11 = .ok (.getfield 11, 3) := by decide +kernel
theorem dX4_stateAt_14 : decode cX4_stateAt 14 = .ok (.arraylength, 1) := by decide +kernel
theorem dX4_stateAt_15 : decode cX4_stateAt 15 = .ok (.if_icmp .ge 12, 3) := by decide +kernel
theorem dX4_stateAt_18 : decode cX4_stateAt 18 = .ok (.aload_n 0, 1) := by decide +kernel
theorem dX4_stateAt_19 : decode cX4_stateAt 19 = .ok (.getfield 11, 3) := by decide +kernel
theorem dX4_stateAt_22 : decode cX4_stateAt 22 = .ok (.iload_n 2, 1) := by decide +kernel
theorem dX4_stateAt_23 : decode cX4_stateAt 23 = .ok (.aaload, 1) := by decide +kernel
theorem dX4_stateAt_24 : decode cX4_stateAt 24 = .ok (.goto 4, 3) := by decide +kernel
theorem dX4_stateAt_27 : decode cX4_stateAt 27 = .ok (.aconst_null, 1) := by decide +kernel
theorem dX4_stateAt_28 : decode cX4_stateAt 28 = .ok (.areturn, 1) := by decide +kernel
theorem dX5_init_0 : decode cX5_init 0 = .ok (.aload_n 0, 1) := by decide +kernel
theorem dX5_init_1 : decode cX5_init 1 = .ok (.invokespecial 3, 3) := by decide +kernel
theorem dX5_init_4 : decode cX5_init 4 = .ok (.aload_n 0, 1) := by decide +kernel
theorem dX5_init_5 : decode cX5_init 5 = .ok (.new 9, 3) := by decide +kernel
theorem dX5_init_8 : decode cX5_init 8 = .ok (.dup, 1) := by decide +kernel
theorem dX5_init_9 : decode cX5_init 9 = .ok (.invokespecial 11, 3) := by decide +kernel
theorem dX5_init_12 : decode cX5_init 12 = .ok (.putfield 12, 3) := by decide +kernel
theorem dX5_init_15 : decode cX5_init 15 = .ok (.aload_n 0, 1) := by decide +kernel
theorem dX5_init_16 : decode cX5_init 16 = .ok (.new 18, 3) := by decide +kernel
theorem dX5_init_19 : decode cX5_init 19 = .ok (.dup, 1) := by decide +kernel
theorem dX5_init_20 : decode cX5_init 20 = .ok (.invokespecial 20, 3) := by decide +kernel
theorem dX5_init_23 : decode cX5_init 23 = .ok (.putfield 21, 3) := by decide +kernel
theorem dX5_init_26 : decode cX5_init 26 = .ok (.aload_n 0, 1) := by decide +kernel
theorem dX5_init_27 : decode cX5_init 27 = .ok (.iconst 4, 1) := by decide +kernel
theorem dX5_init_28 : decode cX5_init 28 = .ok (.newarray .int, 2) := by decide +kernel
theorem dX5_init_30 : decode cX5_init 30 = .ok (.dup, 1) := by decide +kernel
theorem dX5_init_31 : decode cX5_init 31 = .ok (.iconst 0, 1) := by decide +kernel
theorem dX5_init_32 : decode cX5_init 32 = .ok (.sipush 150, 3) := by decide +kernel
theorem dX5_init_35 : decode cX5_init 35 = .ok (.iastore, 1) := by decide +kernel
theorem dX5_init_36 : decode cX5_init 36 = .ok (.dup, 1) := by decide +kernel
theorem dX5_init_37 : decode cX5_init 37 = .ok (.iconst 1, 1) := by decide +kernel
theorem dX5_init_38 : decode cX5_init 38 = .ok (.sipush 250, 3) := by decide +kernel
theorem dX5_init_41 : decode cX5_init 41 = .ok (.iastore, 1) := by decide +kernel
theorem dX5_init_42 : decode cX5_init 42 = .ok (.dup, 1) := by decide +kernel
theorem dX5_init_43 : decode cX5_init 43 = .ok (.iconst 2, 1) := by decide +kernel
theorem dX5_init_44 : decode cX5_init 44 = .ok (.sipush 400, 3) := by decide +kernel
theorem dX5_init_47 : decode cX5_init 47 = .ok (.iastore, 1) := by decide +kernel
theorem dX5_init_48 : decode cX5_init 48 = .ok (.dup, 1) := by decide +kernel
theorem dX5_init_49 : decode cX5_init 49 = .ok (.iconst 3, 1) := by decide +kernel
theorem dX5_init_50 : decode cX5_init 50 = .ok (.sipush 800, 3) := by decide +kernel
theorem dX5_init_53 : decode cX5_init 53 = .ok (.iastore, 1) := by decide +kernel
theorem dX5_init_54 : decode cX5_init 54 = .ok (.putfield 25, 3) := by decide +kernel
theorem dX5_init_57 : decode cX5_init 57 = .ok (.aload_n 0, 1) := by decide +kernel
theorem dX5_init_58 : decode cX5_init 58 = .ok (.iconst 1, 1) := by decide +kernel
theorem dX5_init_59 : decode cX5_init 59 = .ok (.putfield 29, 3) := by decide +kernel
theorem dX5_init_62 : decode cX5_init 62 = .ok (.aload_n 0, 1) := by decide +kernel
theorem dX5_init_63 : decode cX5_init 63 = .ok (.iconst 0, 1) := by decide +kernel
theorem dX5_init_64 : decode cX5_init 64 = .ok (.putfield 33, 3) := by decide +kernel
theorem dX5_init_67 : decode cX5_init 67 = .ok (.aload_n 0, 1) := by decide +kernel
theorem dX5_init_68 : decode cX5_init 68 = .ok (.iconst 0, 1) := by decide +kernel
theorem dX5_init_69 : decode cX5_init 69 = .ok (.putfield 37, 3) := by decide +kernel
theorem dX5_init_72 : decode cX5_init 72 = .ok (.aload_n 0, 1) := by decide +kernel
theorem dX5_init_73 : decode cX5_init 73 = .ok (.iconst 0, 1) := by decide +kernel
theorem dX5_init_74 : decode cX5_init 74 = .ok (.putfield 40, 3) := by decide +kernel
theorem dX5_init_77 : decode cX5_init 77 = .ok (.return_, 1) := by decide +kernel
theorem dX5_copyFrom_0 : decode cX5_copyFrom 0 = .ok (.aload_n 0, 1) := by decide +kernel
theorem dX5_copyFrom_1 : decode cX5_copyFrom 1 = .ok (.getfield 12, 3) := by decide +kernel
theorem dX5_copyFrom_4 : decode cX5_copyFrom 4 = .ok (.aload_n 1, 1) := by decide +kernel
theorem dX5_copyFrom_5 : decode cX5_copyFrom 5 = .ok (.getfield 12, 3) := by decide +kernel
theorem dX5_copyFrom_8 : decode cX5_copyFrom 8 = .ok (.invokevirtual 43, 3) := by decide +kernel
theorem dX5_copyFrom_11 : decode cX5_copyFrom 11 = .ok (.aload_n 0, 1) := by decide +kernel
theorem dX5_copyFrom_12 : decode cX5_copyFrom 12 = .ok (.getfield 21, 3) := by decide +kernel
theorem dX5_copyFrom_15 : decode cX5_copyFrom 15 = .ok (.aload_n 1, 1) := by decide +kernel
theorem dX5_copyFrom_16 : decode cX5_copyFrom 16 = .ok (.getfield 21, 3) := by decide +kernel
theorem dX5_copyFrom_19 : decode cX5_copyFrom 19 = .ok (.invokevirtual 47, 3) := by decide +kernel
theorem dX5_copyFrom_22 : decode cX5_copyFrom 22 = .ok (.aload_n 1, 1) := by decide +kernel
theorem dX5_copyFrom_23 : decode cX5_copyFrom 23 = .ok (.getfield 25, 3) := by decide +kernel
theorem dX5_copyFrom_26 : decode cX5_copyFrom 26 = .ok (.iconst 0, 1) := by decide +kernel
theorem dX5_copyFrom_27 : decode cX5_copyFrom 27 = .ok (.aload_n 0, 1) := by decide +kernel
theorem dX5_copyFrom_28 : decode cX5_copyFrom 28 = .ok (.getfield 25, 3) := by decide +kernel
theorem dX5_copyFrom_31 : decode cX5_copyFrom 31 = .ok (.iconst 0, 1) := by decide +kernel
theorem dX5_copyFrom_32 : decode cX5_copyFrom 32 = .ok (.iconst 4, 1) := by decide +kernel
theorem dX5_copyFrom_33 : decode cX5_copyFrom 33 = .ok (.invokestatic 50, 3) := by decide +kernel
theorem dX5_copyFrom_36 : decode cX5_copyFrom 36 = .ok (.aload_n 0, 1) := by decide +kernel
theorem dX5_copyFrom_37 : decode cX5_copyFrom 37 = .ok (.aload_n 1, 1) := by decide +kernel
theorem dX5_copyFrom_38 : decode cX5_copyFrom 38 = .ok (.getfield 29, 3) := by decide +kernel
theorem dX5_copyFrom_41 : decode cX5_copyFrom 41 = .ok (.putfield 29, 3) := by decide +kernel
theorem dX5_copyFrom_44 : decode cX5_copyFrom 44 = .ok (.aload_n 0, 1) := by decide +kernel
theorem dX5_copyFrom_45 : decode cX5_copyFrom 45 = .ok (.aload_n 1, 1) := by decide +kernel
theorem dX5_copyFrom_46 : decode cX5_copyFrom 46 = .ok (.getfield 33, 3) := by decide +kernel
theorem dX5_copyFrom_49 : decode cX5_copyFrom 49 = .ok (.putfield 33, 3) := by decide +kernel
theorem dX5_copyFrom_52 : decode cX5_copyFrom 52 = .ok (.aload_n 0, 1) := by decide +kernel
theorem dX5_copyFrom_53 : decode cX5_copyFrom 53 = .ok (.aload_n 1, 1) := by decide +kernel
theorem dX5_copyFrom_54 : decode cX5_copyFrom 54 = .ok (.getfield 37, 3) := by decide +kernel
theorem dX5_copyFrom_57 : decode cX5_copyFrom 57 = .ok (.putfield 37, 3) := by decide +kernel
theorem dX5_copyFrom_60 : decode cX5_copyFrom 60 = .ok (.aload_n 0, 1) := by decide +kernel
theorem dX5_copyFrom_61 : decode cX5_copyFrom 61 = .ok (.aload_n 1, 1) := by decide +kernel
theorem dX5_copyFrom_62 : decode cX5_copyFrom 62 = .ok (.getfield 40, 3) := by decide +kernel
theorem dX5_copyFrom_65 : decode cX5_copyFrom 65 = .ok (.putfield 40, 3) := by decide +kernel
theorem dX5_copyFrom_68 : decode cX5_copyFrom 68 = .ok (.return_, 1) := by decide +kernel
theorem dX5_priceOf_0 : decode cX5_priceOf 0 = .ok (.iload_n 1, 1) := by decide +kernel
theorem dX5_priceOf_1 : decode cX5_priceOf 1 = .ok (.ifCond .lt 21, 3) := by decide +kernel
theorem dX5_priceOf_4 : decode cX5_priceOf 4 = .ok (.iload_n 1, 1) := by decide +kernel
theorem dX5_priceOf_5 : decode cX5_priceOf 5 = .ok (.aload_n 0, 1) := by decide +kernel
theorem dX5_priceOf_6 : decode cX5_priceOf 6 = .ok (.getfield 25, 3) := by decide +kernel
theorem dX5_priceOf_9 : decode cX5_priceOf 9 = .ok (.arraylength, 1) := by decide +kernel
theorem dX5_priceOf_10 : decode cX5_priceOf 10 = .ok (.if_icmp .ge 12, 3) := by decide +kernel
theorem dX5_priceOf_13 : decode cX5_priceOf 13 = .ok (.aload_n 0, 1) := by decide +kernel
theorem dX5_priceOf_14 : decode cX5_priceOf 14 = .ok (.getfield 25, 3) := by decide +kernel
theorem dX5_priceOf_17 : decode cX5_priceOf 17 = .ok (.iload_n 1, 1) := by decide +kernel
theorem dX5_priceOf_18 : decode cX5_priceOf 18 = .ok (.iaload, 1) := by decide +kernel
theorem dX5_priceOf_19 : decode cX5_priceOf 19 = .ok (.goto 4, 3) := by decide +kernel
theorem dX5_priceOf_22 : decode cX5_priceOf 22 = .ok (.iconst 0, 1) := by decide +kernel
theorem dX5_priceOf_23 : decode cX5_priceOf 23 = .ok (.ireturn, 1) := by decide +kernel
theorem dX5_changePrice_0 : decode cX5_changePrice 0 = .ok (.iload_n 1, 1) := by decide +kernel
theorem dX5_changePrice_1 : decode cX5_changePrice 1 = .ok (.ifCond .lt 19, 3) := by decide +kernel
theorem dX5_changePrice_4 : decode cX5_changePrice 4 = .ok (.iload_n 1, 1) := by decide +kernel
theorem dX5_changePrice_5 : decode cX5_changePrice 5 = .ok (.aload_n 0, 1) := by decide +kernel
theorem dX5_changePrice_6 : decode cX5_changePrice 6 = .ok (.getfield 25, 3) := by decide +kernel
theorem dX5_changePrice_9 : decode cX5_changePrice 9 = .ok (.arraylength, 1) := by decide +kernel
theorem dX5_changePrice_10 : decode cX5_changePrice 10 = .ok (.if_icmp .ge 10, 3) := by decide +kernel
theorem dX5_changePrice_13 : decode cX5_changePrice 13 = .ok (.aload_n 0, 1) := by decide +kernel
theorem dX5_changePrice_14 : decode cX5_changePrice 14 = .ok (.getfield 25, 3) := by decide +kernel
theorem dX5_changePrice_17 : decode cX5_changePrice 17 = .ok (.iload_n 1, 1) := by decide +kernel
theorem dX5_changePrice_18 : decode cX5_changePrice 18 = .ok (.iload_n 2, 1) := by decide +kernel
theorem dX5_changePrice_19 : decode cX5_changePrice 19 = .ok (.iastore, 1) := by decide +kernel
theorem dX5_changePrice_20 : decode cX5_changePrice 20 = .ok (.return_, 1) := by decide +kernel
theorem dX5_refusalOf_0 : decode cX5_refusalOf 0 = .ok (.iload_n 1, 1) := by decide +kernel
theorem dX5_refusalOf_1 : decode cX5_refusalOf 1 = .ok (.invokestatic 56, 3) := by decide +kernel
theorem dX5_refusalOf_4 : decode cX5_refusalOf 4 = .ok (.ifCond .ne 5, 3) := by decide +kernel
theorem dX5_refusalOf_7 : decode cX5_refusalOf 7 = .ok (.iconst (-1), 1) := by decide +kernel
theorem dX5_refusalOf_8 : decode cX5_refusalOf 8 = .ok (.ireturn, 1) := by decide +kernel
theorem dX5_refusalOf_9 : decode cX5_refusalOf 9 = .ok (.aload_n 0, 1) := by decide +kernel
theorem dX5_refusalOf_10 : decode cX5_refusalOf 10 = .ok (.getfield 29, 3) := by decide +kernel
theorem dX5_refusalOf_13 : decode cX5_refusalOf 13 = .ok (.ifCond .eq 21, 3) := by decide +kernel
theorem dX5_refusalOf_16 : decode cX5_refusalOf 16 = .ok (.aload_n 0, 1) := by decide +kernel
theorem dX5_refusalOf_17 : decode cX5_refusalOf 17 = .ok (.getfield 21, 3) := by decide +kernel
theorem dX5_refusalOf_20 : decode cX5_refusalOf 20 = .ok (.getfield 60, 3) := by decide +kernel
theorem dX5_refusalOf_23 : decode cX5_refusalOf 23 = .ok (.aload_n 0, 1) := by decide +kernel
theorem dX5_refusalOf_24 : decode cX5_refusalOf 24 = .ok (.iload_n 1, 1) := by decide +kernel
theorem dX5_refusalOf_25 : decode cX5_refusalOf 25 = .ok (.invokevirtual 63, 3) := by decide +kernel
theorem dX5_refusalOf_28 : decode cX5_refusalOf 28 = .ok (.iadd, 1) := by decide +kernel
theorem dX5_refusalOf_29 : decode cX5_refusalOf 29 = .ok (.ldc 67, 2) := by decide +kernel
theorem dX5_refusalOf_31 : decode cX5_refusalOf 31 = .ok (.if_icmp .le 6, 3) := by decide +kernel
theorem dX5_refusalOf_34 : decode cX5_refusalOf 34 = .ok (.bipush (-2), 2) := by decide +kernel
theorem dX5_refusalOf_36 : decode cX5_refusalOf 36 = .ok (.ireturn, 1) := by decide +kernel
theorem dX5_refusalOf_37 : decode cX5_refusalOf 37 = .ok (.aload_n 0, 1) := by decide +kernel
theorem dX5_refusalOf_38 : decode cX5_refusalOf 38 = .ok (.getfield 21, 3) := by decide +kernel
theorem dX5_refusalOf_41 : decode cX5_refusalOf 41 = .ok (.getfield 68, 3) := by decide +kernel
theorem dX5_refusalOf_44 : decode cX5_refusalOf 44 = .ok (.iload_n 1, 1) := by decide +kernel
theorem dX5_refusalOf_45 : decode cX5_refusalOf 45 = .ok (.invokestatic 71, 3) := by decide +kernel
theorem dX5_refusalOf_48 : decode cX5_refusalOf 48 = .ok (.if_icmp .ge 8, 3) := by decide +kernel
theorem dX5_refusalOf_51 : decode cX5_refusalOf 51 = .ok (.bipush (-3), 2) := by decide +kernel
theorem dX5_refusalOf_53 : decode cX5_refusalOf 53 = .ok (.goto 4, 3) := by decide +kernel
theorem dX5_refusalOf_56 : decode cX5_refusalOf 56 = .ok (.iconst 0, 1) := by decide +kernel
theorem dX5_refusalOf_57 : decode cX5_refusalOf 57 = .ok (.ireturn, 1) := by decide +kernel
theorem dX5_issueTicket_0 : decode cX5_issueTicket 0 = .ok (.aload_n 0, 1) := by decide +kernel
theorem dX5_issueTicket_1 : decode cX5_issueTicket 1 = .ok (.getfield 21, 3) := by decide +kernel
theorem dX5_issueTicket_4 : decode cX5_issueTicket 4 = .ok (.getfield 74, 3) := by decide +kernel
theorem dX5_issueTicket_7 : decode cX5_issueTicket 7 = .ok (.istore_n 2, 1) := by decide +kernel
theorem dX5_issueTicket_8 : decode cX5_issueTicket 8 = .ok (.sipush 1000, 3) := by decide +kernel
theorem dX5_issueTicket_11 : decode cX5_issueTicket 11 = .ok (.iload_n 1, 1) := by decide +kernel
theorem dX5_issueTicket_12 : decode cX5_issueTicket 12 = .ok (.imul, 1) := by decide +kernel
theorem dX5_issueTicket_13 : decode cX5_issueTicket 13 = .ok (.aload_n 0, 1) := by decide +kernel
theorem dX5_issueTicket_14 : decode cX5_issueTicket 14 = .ok (.iload_n 1, 1) := by decide +kernel
theorem dX5_issueTicket_15 : decode cX5_issueTicket 15 = .ok (.invokevirtual 63, 3) := by decide +kernel
theorem dX5_issueTicket_18 : decode cX5_issueTicket 18 = .ok (.iadd, 1) := by decide +kernel
theorem dX5_issueTicket_19 : decode cX5_issueTicket 19 = .ok (.istore_n 3, 1) := by decide +kernel
theorem dX5_issueTicket_20 : decode cX5_issueTicket 20 = .ok (.aload_n 0, 1) := by decide +kernel
theorem dX5_issueTicket_21 : decode cX5_issueTicket 21 = .ok (.iconst 0, 1) := by decide +kernel
theorem dX5_issueTicket_22 : decode cX5_issueTicket 22 = .ok (.aload_n 0, 1) := by decide +kernel
theorem dX5_issueTicket_23 : decode cX5_issueTicket 23 = .ok (.getfield 33, 3) := by decide +kernel
theorem dX5_issueTicket_26 : decode cX5_issueTicket 26 = .ok (.iload_n 3, 1) := by decide +kernel
theorem dX5_issueTicket_27 : decode cX5_issueTicket 27 = .ok (.invokevirtual 77, 3) := by decide +kernel
theorem dX5_issueTicket_30 : decode cX5_issueTicket 30 = .ok (.ifCond .ne 6, 3) := by decide +kernel
theorem dX5_issueTicket_33 : decode cX5_issueTicket 33 = .ok (.bipush (-4), 2) := by decide +kernel
theorem dX5_issueTicket_35 : decode cX5_issueTicket 35 = .ok (.ireturn, 1) := by decide +kernel
theorem dX5_issueTicket_36 : decode cX5_issueTicket 36 = .ok (.aload_n 0, 1) := by decide +kernel
theorem dX5_issueTicket_37 : decode cX5_issueTicket 37 = .ok (.getfield 37, 3) := by decide +kernel
theorem dX5_issueTicket_40 : decode cX5_issueTicket 40 = .ok (.iload_n 1, 1) := by decide +kernel
theorem dX5_issueTicket_41 : decode cX5_issueTicket 41 = .ok (.invokestatic 71, 3) := by decide +kernel
theorem dX5_issueTicket_44 : decode cX5_issueTicket 44 = .ok (.if_icmp .lt 28, 3) := by decide +kernel
theorem dX5_issueTicket_47 : decode cX5_issueTicket 47 = .ok (.aload_n 0, 1) := by decide +kernel
theorem dX5_issueTicket_48 : decode cX5_issueTicket 48 = .ok (.dup, 1) := by decide +kernel
theorem dX5_issueTicket_49 : decode cX5_issueTicket 49 = .ok (.getfield 37, 3) := by decide +kernel
theorem dX5_issueTicket_52 : decode cX5_issueTicket 52 = .ok (.iload_n 1, 1) := by decide +kernel
theorem dX5_issueTicket_53 : decode cX5_issueTicket 53 = .ok (.invokestatic 71, 3) := by decide +kernel
theorem dX5_issueTicket_56 : decode cX5_issueTicket 56 = .ok (.isub, 1) := by decide +kernel
theorem dX5_issueTicket_57 : decode cX5_issueTicket 57 = .ok (.putfield 37, 3) := by decide +kernel
theorem dX5_issueTicket_60 : decode cX5_issueTicket 60 = .ok (.aload_n 0, 1) := by decide +kernel
theorem dX5_issueTicket_61 : decode cX5_issueTicket 61 = .ok (.dup, 1) := by decide +kernel
theorem dX5_issueTicket_62 : decode cX5_issueTicket 62 = .ok (.getfield 40, 3) := by decide +kernel
theorem dX5_issueTicket_65 : decode cX5_issueTicket 65 = .ok (.iconst 1, 1) := by decide +kernel
theorem dX5_issueTicket_66 : decode cX5_issueTicket 66 = .ok (.iadd, 1) := by decide +kernel
theorem dX5_issueTicket_67 : decode cX5_issueTicket 67 = .ok (.putfield 40, 3) := by decide +kernel
theorem dX5_issueTicket_70 : decode cX5_issueTicket 70 = .ok (.iload_n 2, 1) := by decide +kernel
theorem dX5_issueTicket_71 : decode cX5_issueTicket 71 = .ok (.ireturn, 1) := by decide +kernel
theorem dX5_issueTicket_72 : decode cX5_issueTicket 72 = .ok (.aload_n 0, 1) := by decide +kernel
theorem dX5_issueTicket_73 : decode cX5_issueTicket 73 = .ok (.iconst 0, 1) := by decide +kernel
theorem dX5_issueTicket_74 : decode cX5_issueTicket 74 = .ok (.putfield 37, 3) := by decide +kernel
theorem dX5_issueTicket_77 : decode cX5_issueTicket 77 = .ok (.aload_n 0, 1) := by decide +kernel
theorem dX5_issueTicket_78 : decode cX5_issueTicket 78 = .ok (.iconst 1, 1) := by decide +kernel
theorem dX5_issueTicket_79 : decode cX5_issueTicket 79 = .ok (.aload_n 0, 1) := by decide +kernel
theorem dX5_issueTicket_80 : decode cX5_issueTicket 80 = .ok (.getfield 33, 3) := by decide +kernel
theorem dX5_issueTicket_83 : decode cX5_issueTicket 83 = .ok (.iload_n 3, 1) := by decide +kernel
theorem dX5_issueTicket_84 : decode cX5_issueTicket 84 = .ok (.invokevirtual 77, 3) := by decide +kernel
theorem dX5_issueTicket_87 : decode cX5_issueTicket 87 = .ok (.ifCond .eq 7, 3) := by decide +kernel
theorem dX5_issueTicket_90 : decode cX5_issueTicket 90 = .ok (.iload_n 2, 1) := by decide +kernel
theorem dX5_issueTicket_91 : decode cX5_issueTicket 91 = .ok (.goto 5, 3) := by decide +kernel
theorem dX5_issueTicket_94 : decode cX5_issueTicket 94 = .ok (.bipush (-4), 2) := by decide +kernel
theorem dX5_issueTicket_96 : decode cX5_issueTicket 96 = .ok (.ireturn, 1) := by decide +kernel
theorem dX5_endsWithTicket_0 : decode cX5_endsWithTicket 0 = .ok (.aload_n 0, 1) := by decide +kernel
theorem dX5_endsWithTicket_1 : decode cX5_endsWithTicket 1 = .ok (.getfield 21, 3) := by decide +kernel
theorem dX5_endsWithTicket_4 : decode cX5_endsWithTicket 4 = .ok (.getfield 81, 3) := by decide +kernel
theorem dX5_endsWithTicket_7 : decode cX5_endsWithTicket 7 = .ok (.iconst 1, 1) := by decide +kernel
theorem dX5_endsWithTicket_8 : decode cX5_endsWithTicket 8 = .ok (.isub, 1) := by decide +kernel
theorem dX5_endsWithTicket_9 : decode cX5_endsWithTicket 9 = .ok (.istore_n 1, 1) := by decide +kernel
theorem dX5_endsWithTicket_10 : decode cX5_endsWithTicket 10 = .ok (.iload_n 1, 1) := by decide +kernel
theorem dX5_endsWithTicket_11 : decode cX5_endsWithTicket 11 = .ok (.ifCond .lt 49, 3) := by decide +kernel
theorem dX5_endsWithTicket_14 : decode cX5_endsWithTicket 14 = .ok (.aload_n 0, 1) := by decide +kernel
theorem dX5_endsWithTicket_15 : decode cX5_endsWithTicket 15 = .ok (.getfield 12, 3) := by decide +kernel
theorem dX5_endsWithTicket_18 : decode cX5_endsWithTicket 18 = .ok (.aload_n 0, 1) := by decide +kernel
theorem dX5_endsWithTicket_19 : decode cX5_endsWithTicket 19 = .ok (.getfield 21, 3) := by decide +kernel
theorem dX5_endsWithTicket_22 : decode cX5_endsWithTicket 22 = .ok (.getfield 84, 3) := by decide +kernel
theorem dX5_endsWithTicket_25 : decode cX5_endsWithTicket 25 = .ok (.iload_n 1, 1) := by decide +kernel
theorem dX5_endsWithTicket_26 : decode cX5_endsWithTicket 26 = .ok (.invokevirtual 87, 3) := by decide +kernel
theorem dX5_endsWithTicket_29 : decode cX5_endsWithTicket 29 = .ok (.iconst 1, 1) := by decide +kernel
theorem dX5_endsWithTicket_30 : decode cX5_endsWithTicket 30 = .ok (.if_icmp .ne 30, 3) := by decide +kernel
theorem dX5_endsWithTicket_33 : decode cX5_endsWithTicket 33 = .ok (.aload_n 0, 1) := by decide +kernel
theorem dX5_endsWithTicket_34 : decode cX5_endsWithTicket 34 = .ok (.getfield 12, 3) := by decide +kernel
theorem dX5_endsWithTicket_37 : decode cX5_endsWithTicket 37 = .ok (.aload_n 0, 1) := by decide +kernel
theorem dX5_endsWithTicket_38 : decode cX5_endsWithTicket 38 = .ok (.getfield 21, 3) := by decide +kernel
theorem dX5_endsWithTicket_41 : decode cX5_endsWithTicket 41 = .ok (.getfield 84, 3) := by decide +kernel
theorem dX5_endsWithTicket_44 : decode cX5_endsWithTicket 44 = .ok (.iload_n 1, 1) := by decide +kernel
theorem dX5_endsWithTicket_45 : decode cX5_endsWithTicket 45 = .ok (.iconst 0, 1) := by decide +kernel
theorem dX5_endsWithTicket_46 : decode cX5_endsWithTicket 46 = .ok (.invokevirtual 91, 3) := by decide +kernel
theorem dX5_endsWithTicket_49 : decode cX5_endsWithTicket 49 = .ok (.sipush 10000, 3) := by decide +kernel
theorem dX5_endsWithTicket_52 : decode cX5_endsWithTicket 52 = .ok (.idiv, 1) := by decide +kernel
theorem dX5_endsWithTicket_53 : decode cX5_endsWithTicket 53 = .ok (.ifCond .ne 7, 3) := by decide +kernel
theorem dX5_endsWithTicket_56 : decode cX5_endsWithTicket 56 = .ok (.iconst 1, 1) := by decide +kernel
theorem dX5_endsWithTicket_57 : decode cX5_endsWithTicket 57 = .ok (.goto 4, 3) := by decide +kernel
theorem dX5_endsWithTicket_60 : decode cX5_endsWithTicket 60 = .ok (.iconst 0, 1) := by decide +kernel
theorem dX5_endsWithTicket_61 : decode cX5_endsWithTicket 61 = .ok (.ireturn, 1) := by decide +kernel
theorem dX5_cancelLatest_0 : decode cX5_cancelLatest 0 = .ok (.aload_n 0, 1) := by decide +kernel
theorem dX5_cancelLatest_1 : decode cX5_cancelLatest 1 = .ok (.getfield 12, 3) := by decide +kernel
theorem dX5_cancelLatest_4 : decode cX5_cancelLatest 4 = .ok (.aload_n 0, 1) := by decide +kernel
theorem dX5_cancelLatest_5 : decode cX5_cancelLatest 5 = .ok (.getfield 21, 3) := by decide +kernel
theorem dX5_cancelLatest_8 : decode cX5_cancelLatest 8 = .ok (.getfield 84, 3) := by decide +kernel
theorem dX5_cancelLatest_11 : decode cX5_cancelLatest 11 = .ok (.aload_n 0, 1) := by decide +kernel
theorem dX5_cancelLatest_12 : decode cX5_cancelLatest 12 = .ok (.getfield 21, 3) := by decide +kernel
theorem dX5_cancelLatest_15 : decode cX5_cancelLatest 15 = .ok (.getfield 81, 3) := by decide +kernel
theorem dX5_cancelLatest_18 : decode cX5_cancelLatest 18 = .ok (.iconst 1, 1) := by decide +kernel
theorem dX5_cancelLatest_19 : decode cX5_cancelLatest 19 = .ok (.isub, 1) := by decide +kernel
theorem dX5_cancelLatest_20 : decode cX5_cancelLatest 20 = .ok (.iconst 2, 1) := by decide +kernel
theorem dX5_cancelLatest_21 : decode cX5_cancelLatest 21 = .ok (.invokevirtual 91, 3) := by decide +kernel
theorem dX5_cancelLatest_24 : decode cX5_cancelLatest 24 = .ok (.istore_n 1, 1) := by decide +kernel
theorem dX5_cancelLatest_25 : decode cX5_cancelLatest 25 = .ok (.aload_n 0, 1) := by decide +kernel
theorem dX5_cancelLatest_26 : decode cX5_cancelLatest 26 = .ok (.iconst 1, 1) := by decide +kernel
theorem dX5_cancelLatest_27 : decode cX5_cancelLatest 27 = .ok (.aload_n 0, 1) := by decide +kernel
theorem dX5_cancelLatest_28 : decode cX5_cancelLatest 28 = .ok (.getfield 33, 3) := by decide +kernel
theorem dX5_cancelLatest_31 : decode cX5_cancelLatest 31 = .ok (.iload_n 1, 1) := by decide +kernel
theorem dX5_cancelLatest_32 : decode cX5_cancelLatest 32 = .ok (.invokevirtual 77, 3) := by decide +kernel
theorem dX5_cancelLatest_35 : decode cX5_cancelLatest 35 = .ok (.ifCond .eq 11, 3) := by decide +kernel
theorem dX5_cancelLatest_38 : decode cX5_cancelLatest 38 = .ok (.iload_n 1, 1) := by decide +kernel
theorem dX5_cancelLatest_39 : decode cX5_cancelLatest 39 = .ok (.sipush 1000, 3) := by decide +kernel
theorem dX5_cancelLatest_42 : decode cX5_cancelLatest 42 = .ok (.irem, 1) := by decide +kernel
theorem dX5_cancelLatest_43 : decode cX5_cancelLatest 43 = .ok (.goto 5, 3) := by decide +kernel
theorem dX5_cancelLatest_46 : decode cX5_cancelLatest 46 = .ok (.bipush (-4), 2) := by decide +kernel
theorem dX5_cancelLatest_48 : decode cX5_cancelLatest 48 = .ok (.ireturn, 1) := by decide +kernel
theorem dX5_closeDay_0 : decode cX5_closeDay 0 = .ok (.aload_n 0, 1) := by decide +kernel
theorem dX5_closeDay_1 : decode cX5_closeDay 1 = .ok (.getfield 21, 3) := by decide +kernel
theorem dX5_closeDay_4 : decode cX5_closeDay 4 = .ok (.getfield 60, 3) := by decide +kernel
theorem dX5_closeDay_7 : decode cX5_closeDay 7 = .ok (.istore_n 1, 1) := by decide +kernel
theorem dX5_closeDay_8 : decode cX5_closeDay 8 = .ok (.aload_n 0, 1) := by decide +kernel
theorem dX5_closeDay_9 : decode cX5_closeDay 9 = .ok (.iconst 3, 1) := by decide +kernel
theorem dX5_closeDay_10 : decode cX5_closeDay 10 = .ok (.aload_n 0, 1) := by decide +kernel
theorem dX5_closeDay_11 : decode cX5_closeDay 11 = .ok (.getfield 33, 3) := by decide +kernel
theorem dX5_closeDay_14 : decode cX5_closeDay 14 = .ok (.iload_n 1, 1) := by decide +kernel
theorem dX5_closeDay_15 : decode cX5_closeDay 15 = .ok (.invokevirtual 77, 3) := by decide +kernel
theorem dX5_closeDay_18 : decode cX5_closeDay 18 = .ok (.ifCond .eq 7, 3) := by decide +kernel
theorem dX5_closeDay_21 : decode cX5_closeDay 21 = .ok (.iload_n 1, 1) := by decide +kernel
theorem dX5_closeDay_22 : decode cX5_closeDay 22 = .ok (.goto 5, 3) := by decide +kernel
theorem dX5_closeDay_25 : decode cX5_closeDay 25 = .ok (.bipush (-4), 2) := by decide +kernel
theorem dX5_closeDay_27 : decode cX5_closeDay 27 = .ok (.ireturn, 1) := by decide +kernel
theorem dX5_putInPaper_0 : decode cX5_putInPaper 0 = .ok (.aload_n 0, 1) := by decide +kernel
theorem dX5_putInPaper_1 : decode cX5_putInPaper 1 = .ok (.getfield 37, 3) := by decide +kernel
theorem dX5_putInPaper_4 : decode cX5_putInPaper 4 = .ok (.istore_n 3, 1) := by decide +kernel
theorem dX5_putInPaper_5 : decode cX5_putInPaper 5 = .ok (.aload_n 0, 1) := by decide +kernel
theorem dX5_putInPaper_6 : decode cX5_putInPaper 6 = .ok (.iload_n 2, 1) := by decide +kernel
theorem dX5_putInPaper_7 : decode cX5_putInPaper 7 = .ok (.putfield 37, 3) := by decide +kernel
theorem dX5_putInPaper_10 : decode cX5_putInPaper 10 = .ok (.aload_n 0, 1) := by decide +kernel
theorem dX5_putInPaper_11 : decode cX5_putInPaper 11 = .ok (.iconst 4, 1) := by decide +kernel
theorem dX5_putInPaper_12 : decode cX5_putInPaper 12 = .ok (.aload_n 0, 1) := by decide +kernel
theorem dX5_putInPaper_13 : decode cX5_putInPaper 13 = .ok (.getfield 33, 3) := by decide +kernel
theorem dX5_putInPaper_16 : decode cX5_putInPaper 16 = .ok (.iload_n 1, 1) := by decide +kernel
theorem dX5_putInPaper_17 : decode cX5_putInPaper 17 = .ok (.invokevirtual 77, 3) := by decide +kernel
theorem dX5_putInPaper_20 : decode cX5_putInPaper 20 = .ok (.ifCond .eq 7, 3) := by decide +kernel
theorem dX5_putInPaper_23 : decode cX5_putInPaper 23 = .ok (.iload_n 3, 1) := by decide +kernel
theorem dX5_putInPaper_24 : decode cX5_putInPaper 24 = .ok (.goto 5, 3) := by decide +kernel
theorem dX5_putInPaper_27 : decode cX5_putInPaper 27 = .ok (.bipush (-4), 2) := by decide +kernel
theorem dX5_putInPaper_29 : decode cX5_putInPaper 29 = .ok (.ireturn, 1) := by decide +kernel
theorem dX5_moveClock_0 : decode cX5_moveClock 0 = .ok (.iload_n 1, 1) := by decide +kernel
theorem dX5_moveClock_1 : decode cX5_moveClock 1 = .ok (.aload_n 0, 1) := by decide +kernel
theorem dX5_moveClock_2 : decode cX5_moveClock 2 = .ok (.getfield 33, 3) := by decide +kernel
theorem dX5_moveClock_5 : decode cX5_moveClock 5 = .ok (.isub, 1) := by decide +kernel
theorem dX5_moveClock_6 : decode cX5_moveClock 6 = .ok (.invokestatic 95, 3) := by decide +kernel
theorem dX5_moveClock_9 : decode cX5_moveClock 9 = .ok (.iconst 5, 1) := by decide +kernel
theorem dX5_moveClock_10 : decode cX5_moveClock 10 = .ok (.if_icmp .lt 7, 3) := by decide +kernel
theorem dX5_moveClock_13 : decode cX5_moveClock 13 = .ok (.iconst 1, 1) := by decide +kernel
theorem dX5_moveClock_14 : decode cX5_moveClock 14 = .ok (.goto 4, 3) := by decide +kernel
theorem dX5_moveClock_17 : decode cX5_moveClock 17 = .ok (.iconst 0, 1) := by decide +kernel
theorem dX5_moveClock_18 : decode cX5_moveClock 18 = .ok (.istore_n 2, 1) := by decide +kernel
theorem dX5_moveClock_19 : decode cX5_moveClock 19 = .ok (.iload_n 2, 1) := by decide +kernel
theorem dX5_moveClock_20 : decode cX5_moveClock 20 = .ok (.ifCond .eq 19, 3) := by decide +kernel
theorem dX5_moveClock_23 : decode cX5_moveClock 23 = .ok (.aload_n 0, 1) := by decide +kernel
theorem dX5_moveClock_24 : decode cX5_moveClock 24 = .ok (.iconst 2, 1) := by decide +kernel
theorem dX5_moveClock_25 : decode cX5_moveClock 25 = .ok (.iload_n 1, 1) := by decide +kernel
theorem dX5_moveClock_26 : decode cX5_moveClock 26 = .ok (.aload_n 0, 1) := by decide +kernel
theorem dX5_moveClock_27 : decode cX5_moveClock 27 = .ok (.getfield 33, 3) := by decide +kernel
theorem dX5_moveClock_30 : decode cX5_moveClock 30 = .ok (.invokevirtual 77, 3) := by decide +kernel
theorem dX5_moveClock_33 : decode cX5_moveClock 33 = .ok (.ifCond .ne 6, 3) := by decide +kernel
theorem dX5_moveClock_36 : decode cX5_moveClock 36 = .ok (.bipush (-4), 2) := by decide +kernel
theorem dX5_moveClock_38 : decode cX5_moveClock 38 = .ok (.ireturn, 1) := by decide +kernel
theorem dX5_moveClock_39 : decode cX5_moveClock 39 = .ok (.aload_n 0, 1) := by decide +kernel
theorem dX5_moveClock_40 : decode cX5_moveClock 40 = .ok (.iload_n 1, 1) := by decide +kernel
theorem dX5_moveClock_41 : decode cX5_moveClock 41 = .ok (.putfield 33, 3) := by decide +kernel
theorem dX5_moveClock_44 : decode cX5_moveClock 44 = .ok (.iload_n 2, 1) := by decide +kernel
theorem dX5_moveClock_45 : decode cX5_moveClock 45 = .ok (.ifCond .eq 7, 3) := by decide +kernel
theorem dX5_moveClock_48 : decode cX5_moveClock 48 = .ok (.iconst 1, 1) := by decide +kernel
theorem dX5_moveClock_49 : decode cX5_moveClock 49 = .ok (.goto 4, 3) := by decide +kernel
theorem dX5_moveClock_52 : decode cX5_moveClock 52 = .ok (.iconst 0, 1) := by decide +kernel
theorem dX5_moveClock_53 : decode cX5_moveClock 53 = .ok (.ireturn, 1) := by decide +kernel
theorem dX5_losePower_0 : decode cX5_losePower 0 = .ok (.aload_n 0, 1) := by decide +kernel
theorem dX5_losePower_1 : decode cX5_losePower 1 = .ok (.iconst 0, 1) := by decide +kernel
theorem dX5_losePower_2 : decode cX5_losePower 2 = .ok (.putfield 29, 3) := by decide +kernel
theorem dX5_losePower_5 : decode cX5_losePower 5 = .ok (.aload_n 0, 1) := by decide +kernel
theorem dX5_losePower_6 : decode cX5_losePower 6 = .ok (.getfield 21, 3) := by decide +kernel
theorem dX5_losePower_9 : decode cX5_losePower 9 = .ok (.invokevirtual 100, 3) := by decide +kernel
theorem dX5_losePower_12 : decode cX5_losePower 12 = .ok (.return_, 1) := by decide +kernel
theorem dX5_wake_0 : decode cX5_wake 0 = .ok (.aload_n 0, 1) := by decide +kernel
theorem dX5_wake_1 : decode cX5_wake 1 = .ok (.iconst 1, 1) := by decide +kernel
theorem dX5_wake_2 : decode cX5_wake 2 = .ok (.putfield 29, 3) := by decide +kernel
theorem dX5_wake_5 : decode cX5_wake 5 = .ok (.aload_n 0, 1) := by decide +kernel
theorem dX5_wake_6 : decode cX5_wake 6 = .ok (.getfield 21, 3) := by decide +kernel
theorem dX5_wake_9 : decode cX5_wake 9 = .ok (.aload_n 0, 1) := by decide +kernel
theorem dX5_wake_10 : decode cX5_wake 10 = .ok (.getfield 12, 3) := by decide +kernel
theorem dX5_wake_13 : decode cX5_wake 13 = .ok (.invokevirtual 103, 3) := by decide +kernel
theorem dX5_wake_16 : decode cX5_wake 16 = .ok (.return_, 1) := by decide +kernel
theorem dX5_writeRecord_0 : decode cX5_writeRecord 0 = .ok (.sipush 10000, 3) := by decide +kernel
theorem dX5_writeRecord_3 : decode cX5_writeRecord 3 = .ok (.iload_n 1, 1) := by decide +kernel
theorem dX5_writeRecord_4 : decode cX5_writeRecord 4 = .ok (.imul, 1) := by decide +kernel
theorem dX5_writeRecord_5 : decode cX5_writeRecord 5 = .ok (.aload_n 0, 1) := by decide +kernel
theorem dX5_writeRecord_6 : decode cX5_writeRecord 6 = .ok (.getfield 21, 3) := by decide +kernel
theorem dX5_writeRecord_9 : decode cX5_writeRecord 9 = .ok (.getfield 74, 3) := by decide +kernel
theorem dX5_writeRecord_12 : decode cX5_writeRecord 12 = .ok (.iadd, 1) := by decide +kernel
theorem dX5_writeRecord_13 : decode cX5_writeRecord 13 = .ok (.istore 4, 2) := by decide +kernel
theorem dX5_writeRecord_15 : decode cX5_writeRecord 15 = .ok (.aload_n 0, 1) := by decide +kernel
theorem dX5_writeRecord_16 : decode cX5_writeRecord 16 = .ok (.getfield 21, 3) := by decide +kernel
theorem dX5_writeRecord_19 : decode cX5_writeRecord 19 = .ok (.getfield 81, 3) := by decide +kernel
theorem dX5_writeRecord_22 : decode cX5_writeRecord 22 = .ok (.iconst 4, 1) := by decide +kernel
theorem dX5_writeRecord_23 : decode cX5_writeRecord 23 = .ok (.if_icmp .lt 10, 3) := by decide +kernel
theorem dX5_writeRecord_26 : decode cX5_writeRecord 26 = .ok (.aload_n 0, 1) := by decide +kernel
theorem dX5_writeRecord_27 : decode cX5_writeRecord 27 = .ok (.invokevirtual 106, 3) := by decide +kernel
theorem dX5_writeRecord_30 : decode cX5_writeRecord 30 = .ok (.ifCond .eq 7, 3) := by decide +kernel
theorem dX5_writeRecord_33 : decode cX5_writeRecord 33 = .ok (.iconst 1, 1) := by decide +kernel
theorem dX5_writeRecord_34 : decode cX5_writeRecord 34 = .ok (.goto 4, 3) := by decide +kernel
theorem dX5_writeRecord_37 : decode cX5_writeRecord 37 = .ok (.iconst 0, 1) := by decide +kernel
theorem dX5_writeRecord_38 : decode cX5_writeRecord 38 = .ok (.istore 5, 2) := by decide +kernel
theorem dX5_writeRecord_40 : decode cX5_writeRecord 40 = .ok (.iload 5, 2) := by decide +kernel
theorem dX5_writeRecord_42 : decode cX5_writeRecord 42 = .ok (.ifCond .eq 14, 3) := by decide +kernel
theorem dX5_writeRecord_45 : decode cX5_writeRecord 45 = .ok (.aload_n 0, 1) := by decide +kernel
theorem dX5_writeRecord_46 : decode cX5_writeRecord 46 = .ok (.iload 4, 2) := by decide +kernel
theorem dX5_writeRecord_48 : decode cX5_writeRecord 48 = .ok (.iload_n 2, 1) := by decide +kernel
theorem dX5_writeRecord_49 : decode cX5_writeRecord 49 = .ok (.iload_n 3, 1) := by decide +kernel
theorem dX5_writeRecord_50 : decode cX5_writeRecord 50 = .ok (.invokevirtual 110, 3) := by decide +kernel
theorem dX5_writeRecord_53 : decode cX5_writeRecord 53 = .ok (.ifCond .ne 9, 3) := by decide +kernel
theorem dX5_writeRecord_56 : decode cX5_writeRecord 56 = .ok (.aload_n 0, 1) := by decide +kernel
theorem dX5_writeRecord_57 : decode cX5_writeRecord 57 = .ok (.invokevirtual 113, 3) := by decide +kernel
theorem dX5_writeRecord_60 : decode cX5_writeRecord 60 = .ok (.iconst 0, 1) := by decide +kernel
theorem dX5_writeRecord_61 : decode cX5_writeRecord 61 = .ok (.ireturn, 1) := by decide +kernel
theorem dX5_writeRecord_62 : decode cX5_writeRecord 62 = .ok (.aload_n 0, 1) := by decide +kernel
theorem dX5_writeRecord_63 : decode cX5_writeRecord 63 = .ok (.getfield 21, 3) := by decide +kernel
theorem dX5_writeRecord_66 : decode cX5_writeRecord 66 = .ok (.dup, 1) := by decide +kernel
theorem dX5_writeRecord_67 : decode cX5_writeRecord 67 = .ok (.getfield 81, 3) := by decide +kernel
theorem dX5_writeRecord_70 : decode cX5_writeRecord 70 = .ok (.iconst 1, 1) := by decide +kernel
theorem dX5_writeRecord_71 : decode cX5_writeRecord 71 = .ok (.iadd, 1) := by decide +kernel
theorem dX5_writeRecord_72 : decode cX5_writeRecord 72 = .ok (.putfield 81, 3) := by decide +kernel
theorem dX5_writeRecord_75 : decode cX5_writeRecord 75 = .ok (.aload_n 0, 1) := by decide +kernel
theorem dX5_writeRecord_76 : decode cX5_writeRecord 76 = .ok (.getfield 21, 3) := by decide +kernel
theorem dX5_writeRecord_79 : decode cX5_writeRecord 79 = .ok (.iload 4, 2) := by decide +kernel
theorem dX5_writeRecord_81 : decode cX5_writeRecord 81 = .ok (.iload_n 3, 1) := by decide +kernel
theorem dX5_writeRecord_82 : decode cX5_writeRecord 82 = .ok (.invokevirtual 116, 3) := by decide +kernel
theorem dX5_writeRecord_85 : decode cX5_writeRecord 85 = .ok (.iconst 1, 1) := by decide +kernel
theorem dX5_writeRecord_86 : decode cX5_writeRecord 86 = .ok (.ireturn, 1) := by decide +kernel
theorem dX5_beginBlock_0 : decode cX5_beginBlock 0 = .ok (.aload_n 0, 1) := by decide +kernel
theorem dX5_beginBlock_1 : decode cX5_beginBlock 1 = .ok (.getfield 21, 3) := by decide +kernel
theorem dX5_beginBlock_4 : decode cX5_beginBlock 4 = .ok (.getfield 84, 3) := by decide +kernel
theorem dX5_beginBlock_7 : decode cX5_beginBlock 7 = .ok (.iconst 1, 1) := by decide +kernel
theorem dX5_beginBlock_8 : decode cX5_beginBlock 8 = .ok (.iadd, 1) := by decide +kernel
theorem dX5_beginBlock_9 : decode cX5_beginBlock 9 = .ok (.iconst 5, 1) := by decide +kernel
theorem dX5_beginBlock_10 : decode cX5_beginBlock 10 = .ok (.irem, 1) := by decide +kernel
theorem dX5_beginBlock_11 : decode cX5_beginBlock 11 = .ok (.istore_n 1, 1) := by decide +kernel
theorem dX5_beginBlock_12 : decode cX5_beginBlock 12 = .ok (.aload_n 0, 1) := by decide +kernel
theorem dX5_beginBlock_13 : decode cX5_beginBlock 13 = .ok (.getfield 12, 3) := by decide +kernel
theorem dX5_beginBlock_16 : decode cX5_beginBlock 16 = .ok (.aload_n 0, 1) := by decide +kernel
theorem dX5_beginBlock_17 : decode cX5_beginBlock 17 = .ok (.getfield 21, 3) := by decide +kernel
theorem dX5_beginBlock_20 : decode cX5_beginBlock 20 = .ok (.getfield 84, 3) := by decide +kernel
theorem dX5_beginBlock_23 : decode cX5_beginBlock 23 = .ok (.iconst 0, 1) := by decide +kernel
theorem dX5_beginBlock_24 : decode cX5_beginBlock 24 = .ok (.invokevirtual 120, 3) := by decide +kernel
theorem dX5_beginBlock_27 : decode cX5_beginBlock 27 = .ok (.iconst 1, 1) := by decide +kernel
theorem dX5_beginBlock_28 : decode cX5_beginBlock 28 = .ok (.iadd, 1) := by decide +kernel
theorem dX5_beginBlock_29 : decode cX5_beginBlock 29 = .ok (.sipush 10000, 3) := by decide +kernel
theorem dX5_beginBlock_32 : decode cX5_beginBlock 32 = .ok (.irem, 1) := by decide +kernel
theorem dX5_beginBlock_33 : decode cX5_beginBlock 33 = .ok (.istore_n 2, 1) := by decide +kernel
theorem dX5_beginBlock_34 : decode cX5_beginBlock 34 = .ok (.iload_n 2, 1) := by decide +kernel
theorem dX5_beginBlock_35 : decode cX5_beginBlock 35 = .ok (.aload_n 0, 1) := by decide +kernel
theorem dX5_beginBlock_36 : decode cX5_beginBlock 36 = .ok (.getfield 21, 3) := by decide +kernel
theorem dX5_beginBlock_39 : decode cX5_beginBlock 39 = .ok (.getfield 60, 3) := by decide +kernel
theorem dX5_beginBlock_42 : decode cX5_beginBlock 42 = .ok (.aload_n 0, 1) := by decide +kernel
theorem dX5_beginBlock_43 : decode cX5_beginBlock 43 = .ok (.getfield 21, 3) := by decide +kernel
theorem dX5_beginBlock_46 : decode cX5_beginBlock 46 = .ok (.getfield 123, 3) := by decide +kernel
theorem dX5_beginBlock_49 : decode cX5_beginBlock 49 = .ok (.aload_n 0, 1) := by decide +kernel
theorem dX5_beginBlock_50 : decode cX5_beginBlock 50 = .ok (.getfield 21, 3) := by decide +kernel
theorem dX5_beginBlock_53 : decode cX5_beginBlock 53 = .ok (.getfield 68, 3) := by decide +kernel
theorem dX5_beginBlock_56 : decode cX5_beginBlock 56 = .ok (.aload_n 0, 1) := by decide +kernel
theorem dX5_beginBlock_57 : decode cX5_beginBlock 57 = .ok (.getfield 21, 3) := by decide +kernel
theorem dX5_beginBlock_60 : decode cX5_beginBlock 60 = .ok (.getfield 74, 3) := by decide +kernel
theorem dX5_beginBlock_63 : decode cX5_beginBlock 63 = .ok (.invokestatic 126, 3) := by decide +kernel
theorem dX5_beginBlock_66 : decode cX5_beginBlock 66 = .ok (.istore_n 3, 1) := by decide +kernel
theorem dX5_beginBlock_67 : decode cX5_beginBlock 67 = .ok (.aload_n 0, 1) := by decide +kernel
theorem dX5_beginBlock_68 : decode cX5_beginBlock 68 = .ok (.getfield 12, 3) := by decide +kernel
theorem dX5_beginBlock_71 : decode cX5_beginBlock 71 = .ok (.iload_n 1, 1) := by decide +kernel
theorem dX5_beginBlock_72 : decode cX5_beginBlock 72 = .ok (.invokevirtual 130, 3) := by decide +kernel
theorem dX5_beginBlock_75 : decode cX5_beginBlock 75 = .ok (.ifCond .eq 109, 3) := by decide +kernel
theorem dX5_beginBlock_78 : decode cX5_beginBlock 78 = .ok (.aload_n 0, 1) := by decide +kernel
theorem dX5_beginBlock_79 : decode cX5_beginBlock 79 = .ok (.getfield 12, 3) := by decide +kernel
theorem dX5_beginBlock_82 : decode cX5_beginBlock 82 = .ok (.iload_n 1, 1) := by decide +kernel
theorem dX5_beginBlock_83 : decode cX5_beginBlock 83 = .ok (.iconst 0, 1) := by decide +kernel
theorem dX5_beginBlock_84 : decode cX5_beginBlock 84 = .ok (.iload_n 2, 1) := by decide +kernel
theorem dX5_beginBlock_85 : decode cX5_beginBlock 85 = .ok (.invokevirtual 133, 3) := by decide +kernel
theorem dX5_beginBlock_88 : decode cX5_beginBlock 88 = .ok (.ifCond .eq 96, 3) := by decide +kernel
theorem dX5_beginBlock_91 : decode cX5_beginBlock 91 = .ok (.aload_n 0, 1) := by decide +kernel
theorem dX5_beginBlock_92 : decode cX5_beginBlock 92 = .ok (.getfield 12, 3) := by decide +kernel
theorem dX5_beginBlock_95 : decode cX5_beginBlock 95 = .ok (.iload_n 1, 1) := by decide +kernel
theorem dX5_beginBlock_96 : decode cX5_beginBlock 96 = .ok (.iconst 1, 1) := by decide +kernel
theorem dX5_beginBlock_97 : decode cX5_beginBlock 97 = .ok (.aload_n 0, 1) := by decide +kernel
theorem dX5_beginBlock_98 : decode cX5_beginBlock 98 = .ok (.getfield 21, 3) := by decide +kernel
theorem dX5_beginBlock_101 : decode cX5_beginBlock 101 = .ok (.getfield 60, 3) := by decide +kernel
theorem dX5_beginBlock_104 : decode cX5_beginBlock 104 = .ok (.invokevirtual 133, 3) := by decide +kernel
theorem dX5_beginBlock_107 : decode cX5_beginBlock 107 = .ok (.ifCond .eq 77, 3) := by decide +kernel
theorem dX5_beginBlock_110 : decode cX5_beginBlock 110 = .ok (.aload_n 0, 1) := by decide +kernel
theorem dX5_beginBlock_111 : decode cX5_beginBlock 111 = .ok (.getfield 12, 3) := by decide +kernel
theorem dX5_beginBlock_114 : decode cX5_beginBlock 114 = .ok (.iload_n 1, 1) := by decide +kernel
theorem dX5_beginBlock_115 : decode cX5_beginBlock 115 = .ok (.iconst 2, 1) := by decide +kernel
theorem dX5_beginBlock_116 : decode cX5_beginBlock 116 = .ok (.aload_n 0, 1) := by decide +kernel
theorem dX5_beginBlock_117 : decode cX5_beginBlock 117 = .ok (.getfield 21, 3) := by decide +kernel
theorem dX5_beginBlock_120 : decode cX5_beginBlock 120 = .ok (.getfield 123, 3) := by decide +kernel
theorem dX5_beginBlock_123 : decode cX5_beginBlock 123 = .ok (.invokevirtual 133, 3) := by decide +kernel
theorem dX5_beginBlock_126 : decode cX5_beginBlock 126 = .ok (.ifCond .eq 58, 3) := by decide +kernel
theorem dX5_beginBlock_129 : decode cX5_beginBlock 129 = .ok (.aload_n 0, 1) := by decide +kernel
theorem dX5_beginBlock_130 : decode cX5_beginBlock 130 = .ok (.getfield 12, 3) := by decide +kernel
theorem dX5_beginBlock_133 : decode cX5_beginBlock 133 = .ok (.iload_n 1, 1) := by decide +kernel
theorem dX5_beginBlock_134 : decode cX5_beginBlock 134 = .ok (.iconst 3, 1) := by decide +kernel
theorem dX5_beginBlock_135 : decode cX5_beginBlock 135 = .ok (.aload_n 0, 1) := by decide +kernel
theorem dX5_beginBlock_136 : decode cX5_beginBlock 136 = .ok (.getfield 21, 3) := by decide +kernel
theorem dX5_beginBlock_139 : decode cX5_beginBlock 139 = .ok (.getfield 68, 3) := by decide +kernel
theorem dX5_beginBlock_142 : decode cX5_beginBlock 142 = .ok (.invokevirtual 133, 3) := by decide +kernel
theorem dX5_beginBlock_145 : decode cX5_beginBlock 145 = .ok (.ifCond .eq 39, 3) := by decide +kernel
theorem dX5_beginBlock_148 : decode cX5_beginBlock 148 = .ok (.aload_n 0, 1) := by decide +kernel
theorem dX5_beginBlock_149 : decode cX5_beginBlock 149 = .ok (.getfield 12, 3) := by decide +kernel
theorem dX5_beginBlock_152 : decode cX5_beginBlock 152 = .ok (.iload_n 1, 1) := by decide +kernel
theorem dX5_beginBlock_153 : decode cX5_beginBlock 153 = .ok (.iconst 4, 1) := by decide +kernel
theorem dX5_beginBlock_154 : decode cX5_beginBlock 154 = .ok (.aload_n 0, 1) := by decide +kernel
theorem dX5_beginBlock_155 : decode cX5_beginBlock 155 = .ok (.getfield 21, 3) := by decide +kernel
theorem dX5_beginBlock_158 : decode cX5_beginBlock 158 = .ok (.getfield 74, 3) := by decide +kernel
theorem dX5_beginBlock_161 : decode cX5_beginBlock 161 = .ok (.invokevirtual 133, 3) := by decide +kernel
theorem dX5_beginBlock_164 : decode cX5_beginBlock 164 = .ok (.ifCond .eq 20, 3) := by decide +kernel
theorem dX5_beginBlock_167 : decode cX5_beginBlock 167 = .ok (.aload_n 0, 1) := by decide +kernel
theorem dX5_beginBlock_168 : decode cX5_beginBlock 168 = .ok (.getfield 12, 3) := by decide +kernel
theorem dX5_beginBlock_171 : decode cX5_beginBlock 171 = .ok (.iload_n 1, 1) := by decide +kernel
theorem dX5_beginBlock_172 : decode cX5_beginBlock 172 = .ok (.iconst 5, 1) := by decide +kernel
theorem dX5_beginBlock_173 : decode cX5_beginBlock 173 = .ok (.iload_n 3, 1) := by decide +kernel
theorem dX5_beginBlock_174 : decode cX5_beginBlock 174 = .ok (.invokevirtual 133, 3) := by decide +kernel
theorem dX5_beginBlock_177 : decode cX5_beginBlock 177 = .ok (.ifCond .eq 7, 3) := by decide +kernel
theorem dX5_beginBlock_180 : decode cX5_beginBlock 180 = .ok (.iconst 1, 1) := by decide +kernel
theorem dX5_beginBlock_181 : decode cX5_beginBlock 181 = .ok (.goto 4, 3) := by decide +kernel
theorem dX5_beginBlock_184 : decode cX5_beginBlock 184 = .ok (.iconst 0, 1) := by decide +kernel
theorem dX5_beginBlock_185 : decode cX5_beginBlock 185 = .ok (.istore 4, 2) := by decide +kernel
theorem dX5_beginBlock_187 : decode cX5_beginBlock 187 = .ok (.iload 4, 2) := by decide +kernel
theorem dX5_beginBlock_189 : decode cX5_beginBlock 189 = .ok (.ifCond .eq 19, 3) := by decide +kernel
theorem dX5_beginBlock_192 : decode cX5_beginBlock 192 = .ok (.aload_n 0, 1) := by decide +kernel
theorem dX5_beginBlock_193 : decode cX5_beginBlock 193 = .ok (.getfield 21, 3) := by decide +kernel
theorem dX5_beginBlock_196 : decode cX5_beginBlock 196 = .ok (.iload_n 1, 1) := by decide +kernel
theorem dX5_beginBlock_197 : decode cX5_beginBlock 197 = .ok (.putfield 84, 3) := by decide +kernel
theorem dX5_beginBlock_200 : decode cX5_beginBlock 200 = .ok (.aload_n 0, 1) := by decide +kernel
theorem dX5_beginBlock_201 : decode cX5_beginBlock 201 = .ok (.getfield 21, 3) := by decide +kernel
theorem dX5_beginBlock_204 : decode cX5_beginBlock 204 = .ok (.iconst 0, 1) := by decide +kernel
theorem dX5_beginBlock_205 : decode cX5_beginBlock 205 = .ok (.putfield 81, 3) := by decide +kernel
theorem dX5_beginBlock_208 : decode cX5_beginBlock 208 = .ok (.iload 4, 2) := by decide +kernel
theorem dX5_beginBlock_210 : decode cX5_beginBlock 210 = .ok (.ireturn, 1) := by decide +kernel
theorem dX5_fillPlace_0 : decode cX5_fillPlace 0 = .ok (.aload_n 0, 1) := by decide +kernel
theorem dX5_fillPlace_1 : decode cX5_fillPlace 1 = .ok (.getfield 21, 3) := by decide +kernel
theorem dX5_fillPlace_4 : decode cX5_fillPlace 4 = .ok (.getfield 84, 3) := by decide +kernel
theorem dX5_fillPlace_7 : decode cX5_fillPlace 7 = .ok (.istore 4, 2) := by decide +kernel
theorem dX5_fillPlace_9 : decode cX5_fillPlace 9 = .ok (.bipush 6, 2) := by decide +kernel
theorem dX5_fillPlace_11 : decode cX5_fillPlace 11 = .ok (.aload_n 0, 1) := by decide +kernel
theorem dX5_fillPlace_12 : decode cX5_fillPlace 12 = .ok (.getfield 21, 3) := by decide +kernel
theorem dX5_fillPlace_15 : decode cX5_fillPlace 15 = .ok (.getfield 81, 3) := by decide +kernel
theorem dX5_fillPlace_18 : decode cX5_fillPlace 18 = .ok (.iconst 4, 1) := by decide +kernel
theorem dX5_fillPlace_19 : decode cX5_fillPlace 19 = .ok (.imul, 1) := by decide +kernel
theorem dX5_fillPlace_20 : decode cX5_fillPlace 20 = .ok (.iadd, 1) := by decide +kernel
theorem dX5_fillPlace_21 : decode cX5_fillPlace 21 = .ok (.istore 5, 2) := by decide +kernel
theorem dX5_fillPlace_23 : decode cX5_fillPlace 23 = .ok (.iload_n 1, 1) := by decide +kernel
theorem dX5_fillPlace_24 : decode cX5_fillPlace 24 = .ok (.iload_n 2, 1) := by decide +kernel
theorem dX5_fillPlace_25 : decode cX5_fillPlace 25 = .ok (.iload_n 3, 1) := by decide +kernel
theorem dX5_fillPlace_26 : decode cX5_fillPlace 26 = .ok (.aload_n 0, 1) := by decide +kernel
theorem dX5_fillPlace_27 : decode cX5_fillPlace 27 = .ok (.getfield 12, 3) := by decide +kernel
theorem dX5_fillPlace_30 : decode cX5_fillPlace 30 = .ok (.iload 4, 2) := by decide +kernel
theorem dX5_fillPlace_32 : decode cX5_fillPlace 32 = .ok (.iconst 0, 1) := by decide +kernel
theorem dX5_fillPlace_33 : decode cX5_fillPlace 33 = .ok (.invokevirtual 120, 3) := by decide +kernel
theorem dX5_fillPlace_36 : decode cX5_fillPlace 36 = .ok (.invokestatic 136, 3) := by decide +kernel
theorem dX5_fillPlace_39 : decode cX5_fillPlace 39 = .ok (.istore 6, 2) := by decide +kernel
theorem dX5_fillPlace_41 : decode cX5_fillPlace 41 = .ok (.aload_n 0, 1) := by decide +kernel
theorem dX5_fillPlace_42 : decode cX5_fillPlace 42 = .ok (.getfield 12, 3) := by decide +kernel
theorem dX5_fillPlace_45 : decode cX5_fillPlace 45 = .ok (.iload 4, 2) := by decide +kernel
theorem dX5_fillPlace_47 : decode cX5_fillPlace 47 = .ok (.iload 5, 2) := by decide +kernel
theorem dX5_fillPlace_49 : decode cX5_fillPlace 49 = .ok (.iload_n 1, 1) := by decide +kernel
theorem dX5_fillPlace_50 : decode cX5_fillPlace 50 = .ok (.invokevirtual 133, 3) := by decide +kernel
theorem dX5_fillPlace_53 : decode cX5_fillPlace 53 = .ok (.ifCond .eq 59, 3) := by decide +kernel
theorem dX5_fillPlace_56 : decode cX5_fillPlace 56 = .ok (.aload_n 0, 1) := by decide +kernel
theorem dX5_fillPlace_57 : decode cX5_fillPlace 57 = .ok (.getfield 12, 3) := by decide +kernel
theorem dX5_fillPlace_60 : decode cX5_fillPlace 60 = .ok (.iload 4, 2) := by decide +kernel
theorem dX5_fillPlace_62 : decode cX5_fillPlace 62 = .ok (.iload 5, 2) := by decide +kernel
theorem dX5_fillPlace_64 : decode cX5_fillPlace 64 = .ok (.iconst 1, 1) := by decide +kernel
theorem dX5_fillPlace_65 : decode cX5_fillPlace 65 = .ok (.iadd, 1) := by decide +kernel
theorem dX5_fillPlace_66 : decode cX5_fillPlace 66 = .ok (.iload_n 2, 1) := by decide +kernel
theorem dX5_fillPlace_67 : decode cX5_fillPlace 67 = .ok (.invokevirtual 133, 3) := by decide +kernel
theorem dX5_fillPlace_70 : decode cX5_fillPlace 70 = .ok (.ifCond .eq 42, 3) := by decide +kernel
theorem dX5_fillPlace_73 : decode cX5_fillPlace 73 = .ok (.aload_n 0, 1) := by decide +kernel
theorem dX5_fillPlace_74 : decode cX5_fillPlace 74 = .ok (.getfield 12, 3) := by decide +kernel
theorem dX5_fillPlace_77 : decode cX5_fillPlace 77 = .ok (.iload 4, 2) := by decide +kernel
theorem dX5_fillPlace_79 : decode cX5_fillPlace 79 = .ok (.iload 5, 2) := by decide +kernel
theorem dX5_fillPlace_81 : decode cX5_fillPlace 81 = .ok (.iconst 2, 1) := by decide +kernel
theorem dX5_fillPlace_82 : decode cX5_fillPlace 82 = .ok (.iadd, 1) := by decide +kernel
theorem dX5_fillPlace_83 : decode cX5_fillPlace 83 = .ok (.iload_n 3, 1) := by decide +kernel
theorem dX5_fillPlace_84 : decode cX5_fillPlace 84 = .ok (.invokevirtual 133, 3) := by decide +kernel
theorem dX5_fillPlace_87 : decode cX5_fillPlace 87 = .ok (.ifCond .eq 25, 3) := by decide +kernel
theorem dX5_fillPlace_90 : decode cX5_fillPlace 90 = .ok (.aload_n 0, 1) := by decide +kernel
theorem dX5_fillPlace_91 : decode cX5_fillPlace 91 = .ok (.getfield 12, 3) := by decide +kernel
theorem dX5_fillPlace_94 : decode cX5_fillPlace 94 = .ok (.iload 4, 2) := by decide +kernel
theorem dX5_fillPlace_96 : decode cX5_fillPlace 96 = .ok (.iload 5, 2) := by decide +kernel
theorem dX5_fillPlace_98 : decode cX5_fillPlace 98 = .ok (.iconst 3, 1) := by decide +kernel
theorem dX5_fillPlace_99 : decode cX5_fillPlace 99 = .ok (.iadd, 1) := by decide +kernel
theorem dX5_fillPlace_100 : decode cX5_fillPlace 100 = .ok (.iload 6, 2) := by decide +kernel
theorem dX5_fillPlace_102 : decode cX5_fillPlace 102 = .ok (.invokevirtual 133, 3) := by decide +kernel
theorem dX5_fillPlace_105 : decode cX5_fillPlace 105 = .ok (.ifCond .eq 7, 3) := by decide +kernel
theorem dX5_fillPlace_108 : decode cX5_fillPlace 108 = .ok (.iconst 1, 1) := by decide +kernel
theorem dX5_fillPlace_109 : decode cX5_fillPlace 109 = .ok (.goto 4, 3) := by decide +kernel
theorem dX5_fillPlace_112 : decode cX5_fillPlace 112 = .ok (.iconst 0, 1) := by decide +kernel
theorem dX5_fillPlace_113 : decode cX5_fillPlace 113 = .ok (.ireturn, 1) := by decide +kernel
theorem dX6_init_0 : decode cX6_init 0 = .ok (.aload_n 0, 1) := by decide +kernel
theorem dX6_init_1 : decode cX6_init 1 = .ok (.invokespecial 1, 3) := by decide +kernel
theorem dX6_init_4 : decode cX6_init 4 = .ok (.aload_n 0, 1) := by decide +kernel
theorem dX6_init_5 : decode cX6_init 5 = .ok (.new 7, 3) := by decide +kernel
theorem dX6_init_8 : decode cX6_init 8 = .ok (.dup, 1) := by decide +kernel
theorem dX6_init_9 : decode cX6_init 9 = .ok (.invokespecial 9, 3) := by decide +kernel
theorem dX6_init_12 : decode cX6_init 12 = .ok (.putfield 10, 3) := by decide +kernel
theorem dX6_init_15 : decode cX6_init 15 = .ok (.aload_n 0, 1) := by decide +kernel
theorem dX6_init_16 : decode cX6_init 16 = .ok (.new 7, 3) := by decide +kernel
theorem dX6_init_19 : decode cX6_init 19 = .ok (.dup, 1) := by decide +kernel
theorem dX6_init_20 : decode cX6_init 20 = .ok (.invokespecial 9, 3) := by decide +kernel
theorem dX6_init_23 : decode cX6_init 23 = .ok (.putfield 16, 3) := by decide +kernel
theorem dX6_init_26 : decode cX6_init 26 = .ok (.aload_n 0, 1) := by decide +kernel
theorem dX6_init_27 : decode cX6_init 27 = .ok (.new 19, 3) := by decide +kernel
theorem dX6_init_30 : decode cX6_init 30 = .ok (.dup, 1) := by decide +kernel
theorem dX6_init_31 : decode cX6_init 31 = .ok (.invokespecial 21, 3) := by decide +kernel
theorem dX6_init_34 : decode cX6_init 34 = .ok (.putfield 22, 3) := by decide +kernel
theorem dX6_init_37 : decode cX6_init 37 = .ok (.aload_n 0, 1) := by decide +kernel
theorem dX6_init_38 : decode cX6_init 38 = .ok (.new 26, 3) := by decide +kernel
theorem dX6_init_41 : decode cX6_init 41 = .ok (.dup, 1) := by decide +kernel
theorem dX6_init_42 : decode cX6_init 42 = .ok (.invokespecial 28, 3) := by decide +kernel
theorem dX6_init_45 : decode cX6_init 45 = .ok (.putfield 29, 3) := by decide +kernel
theorem dX6_init_48 : decode cX6_init 48 = .ok (.aload_n 0, 1) := by decide +kernel
theorem dX6_init_49 : decode cX6_init 49 = .ok (.iconst 2, 1) := by decide +kernel
theorem dX6_init_50 : decode cX6_init 50 = .ok (.anewarray 33, 3) := by decide +kernel
theorem dX6_init_53 : decode cX6_init 53 = .ok (.putfield 35, 3) := by decide +kernel
theorem dX6_init_56 : decode cX6_init 56 = .ok (.iconst 0, 1) := by decide +kernel
theorem dX6_init_57 : decode cX6_init 57 = .ok (.istore_n 1, 1) := by decide +kernel
theorem dX6_init_58 : decode cX6_init 58 = .ok (.iload_n 1, 1) := by decide +kernel
theorem dX6_init_59 : decode cX6_init 59 = .ok (.aload_n 0, 1) := by decide +kernel
theorem dX6_init_60 : decode cX6_init 60 = .ok (.getfield 35, 3) := by decide +kernel
theorem dX6_init_63 : decode cX6_init 63 = .ok (.arraylength, 1) := by decide +kernel
theorem dX6_init_64 : decode cX6_init 64 = .ok (.if_icmp .ge 22, 3) := by decide +kernel
theorem dX6_init_67 : decode cX6_init 67 = .ok (.aload_n 0, 1) := by decide +kernel
theorem dX6_init_68 : decode cX6_init 68 = .ok (.getfield 35, 3) := by decide +kernel
theorem dX6_init_71 : decode cX6_init 71 = .ok (.iload_n 1, 1) := by decide +kernel
theorem dX6_init_72 : decode cX6_init 72 = .ok (.new 33, 3) := by decide +kernel
theorem dX6_init_75 : decode cX6_init 75 = .ok (.dup, 1) := by decide +kernel
theorem dX6_init_76 : decode cX6_init 76 = .ok (.invokespecial 39, 3) := by decide +kernel
theorem dX6_init_79 : decode cX6_init 79 = .ok (.aastore, 1) := by decide +kernel
theorem dX6_init_80 : decode cX6_init 80 = .ok (.iinc 1 1, 3) := by decide +kernel
theorem dX6_init_83 : decode cX6_init 83 = .ok (.goto (-25), 3) := by decide +kernel
theorem dX6_init_86 : decode cX6_init 86 = .ok (.return_, 1) := by decide +kernel
theorem dX6_sell_0 : decode cX6_sell 0 = .ok (.aload_n 0, 1) := by decide +kernel
theorem dX6_sell_1 : decode cX6_sell 1 = .ok (.getfield 10, 3) := by decide +kernel
theorem dX6_sell_4 : decode cX6_sell 4 = .ok (.iload_n 1, 1) := by decide +kernel
theorem dX6_sell_5 : decode cX6_sell 5 = .ok (.invokevirtual 40, 3) := by decide +kernel
theorem dX6_sell_8 : decode cX6_sell 8 = .ok (.istore_n 2, 1) := by decide +kernel
theorem dX6_sell_9 : decode cX6_sell 9 = .ok (.iload_n 2, 1) := by decide +kernel
theorem dX6_sell_10 : decode cX6_sell 10 = .ok (.ifCond .eq 5, 3) := by decide +kernel
theorem dX6_sell_13 : decode cX6_sell 13 = .ok (.iload_n 2, 1) := by decide +kernel
theorem dX6_sell_14 : decode cX6_sell 14 = .ok (.ireturn, 1) := by decide +kernel
theorem dX6_sell_15 : decode cX6_sell 15 = .ok (.aload_n 0, 1) := by decide +kernel
theorem dX6_sell_16 : decode cX6_sell 16 = .ok (.getfield 29, 3) := by decide +kernel
theorem dX6_sell_19 : decode cX6_sell 19 = .ok (.aload_n 0, 1) := by decide +kernel
theorem dX6_sell_20 : decode cX6_sell 20 = .ok (.getfield 10, 3) := by decide +kernel
theorem dX6_sell_23 : decode cX6_sell 23 = .ok (.invokevirtual 44, 3) := by decide +kernel
theorem dX6_sell_26 : decode cX6_sell 26 = .ok (.aload_n 0, 1) := by decide +kernel
theorem dX6_sell_27 : decode cX6_sell 27 = .ok (.getfield 10, 3) := by decide +kernel
theorem dX6_sell_30 : decode cX6_sell 30 = .ok (.iload_n 1, 1) := by decide +kernel
theorem dX6_sell_31 : decode cX6_sell 31 = .ok (.invokevirtual 48, 3) := by decide +kernel
theorem dX6_sell_34 : decode cX6_sell 34 = .ok (.ireturn, 1) := by decide +kernel
theorem dX6_cancel_0 : decode cX6_cancel 0 = .ok (.aload_n 0, 1) := by decide +kernel
theorem dX6_cancel_1 : decode cX6_cancel 1 = .ok (.getfield 10, 3) := by decide +kernel
theorem dX6_cancel_4 : decode cX6_cancel 4 = .ok (.getfield 51, 3) := by decide +kernel
theorem dX6_cancel_7 : decode cX6_cancel 7 = .ok (.ifCond .eq 13, 3) := by decide +kernel
theorem dX6_cancel_10 : decode cX6_cancel 10 = .ok (.aload_n 0, 1) := by decide +kernel
theorem dX6_cancel_11 : decode cX6_cancel 11 = .ok (.getfield 10, 3) := by decide +kernel
theorem dX6_cancel_14 : decode cX6_cancel 14 = .ok (.invokevirtual 55, 3) := by decide +kernel
theorem dX6_cancel_17 : decode cX6_cancel 17 = .ok (.ifCond .ne 6, 3) := by decide +kernel
theorem dX6_cancel_20 : decode cX6_cancel 20 = .ok (.bipush (-2), 2) := by decide +kernel
theorem dX6_cancel_22 : decode cX6_cancel 22 = .ok (.ireturn, 1) := by decide +kernel
theorem dX6_cancel_23 : decode cX6_cancel 23 = .ok (.aload_n 0, 1) := by decide +kernel
theorem dX6_cancel_24 : decode cX6_cancel 24 = .ok (.getfield 29, 3) := by decide +kernel
theorem dX6_cancel_27 : decode cX6_cancel 27 = .ok (.aload_n 0, 1) := by decide +kernel
theorem dX6_cancel_28 : decode cX6_cancel 28 = .ok (.getfield 10, 3) := by decide +kernel
theorem dX6_cancel_31 : decode cX6_cancel 31 = .ok (.invokevirtual 44, 3) := by decide +kernel
theorem dX6_cancel_34 : decode cX6_cancel 34 = .ok (.aload_n 0, 1) := by decide +kernel
theorem dX6_cancel_35 : decode cX6_cancel 35 = .ok (.getfield 10, 3) := by decide +kernel
theorem dX6_cancel_38 : decode cX6_cancel 38 = .ok (.invokevirtual 59, 3) := by decide +kernel
theorem dX6_cancel_41 : decode cX6_cancel 41 = .ok (.ireturn, 1) := by decide +kernel
theorem dX6_close_0 : decode cX6_close 0 = .ok (.aload_n 0, 1) := by decide +kernel
theorem dX6_close_1 : decode cX6_close 1 = .ok (.getfield 10, 3) := by decide +kernel
theorem dX6_close_4 : decode cX6_close 4 = .ok (.getfield 51, 3) := by decide +kernel
theorem dX6_close_7 : decode cX6_close 7 = .ok (.ifCond .ne 6, 3) := by decide +kernel
theorem dX6_close_10 : decode cX6_close 10 = .ok (.bipush (-2), 2) := by decide +kernel
theorem dX6_close_12 : decode cX6_close 12 = .ok (.ireturn, 1) := by decide +kernel
theorem dX6_close_13 : decode cX6_close 13 = .ok (.aload_n 0, 1) := by decide +kernel
theorem dX6_close_14 : decode cX6_close 14 = .ok (.getfield 29, 3) := by decide +kernel
theorem dX6_close_17 : decode cX6_close 17 = .ok (.aload_n 0, 1) := by decide +kernel
theorem dX6_close_18 : decode cX6_close 18 = .ok (.getfield 10, 3) := by decide +kernel
theorem dX6_close_21 : decode cX6_close 21 = .ok (.invokevirtual 44, 3) := by decide +kernel
theorem dX6_close_24 : decode cX6_close 24 = .ok (.aload_n 0, 1) := by decide +kernel
theorem dX6_close_25 : decode cX6_close 25 = .ok (.getfield 10, 3) := by decide +kernel
theorem dX6_close_28 : decode cX6_close 28 = .ok (.invokevirtual 63, 3) := by decide +kernel
theorem dX6_close_31 : decode cX6_close 31 = .ok (.ireturn, 1) := by decide +kernel
theorem dX6_load_0 : decode cX6_load 0 = .ok (.iload_n 1, 1) := by decide +kernel
theorem dX6_load_1 : decode cX6_load 1 = .ok (.iconst 0, 1) := by decide +kernel
theorem dX6_load_2 : decode cX6_load 2 = .ok (.ldc 66, 2) := by decide +kernel
theorem dX6_load_4 : decode cX6_load 4 = .ok (.invokestatic 67, 3) := by decide +kernel
theorem dX6_load_7 : decode cX6_load 7 = .ok (.ifCond .eq 13, 3) := by decide +kernel
theorem dX6_load_10 : decode cX6_load 10 = .ok (.iload_n 2, 1) := by decide +kernel
theorem dX6_load_11 : decode cX6_load 11 = .ok (.iconst 0, 1) := by decide +kernel
theorem dX6_load_12 : decode cX6_load 12 = .ok (.ldc 66, 2) := by decide +kernel
theorem dX6_load_14 : decode cX6_load 14 = .ok (.invokestatic 67, 3) := by decide +kernel
theorem dX6_load_17 : decode cX6_load 17 = .ok (.ifCond .ne 5, 3) := by decide +kernel
theorem dX6_load_20 : decode cX6_load 20 = .ok (.iconst (-1), 1) := by decide +kernel
theorem dX6_load_21 : decode cX6_load 21 = .ok (.ireturn, 1) := by decide +kernel
theorem dX6_load_22 : decode cX6_load 22 = .ok (.aload_n 0, 1) := by decide +kernel
theorem dX6_load_23 : decode cX6_load 23 = .ok (.getfield 10, 3) := by decide +kernel
theorem dX6_load_26 : decode cX6_load 26 = .ok (.getfield 51, 3) := by decide +kernel
theorem dX6_load_29 : decode cX6_load 29 = .ok (.ifCond .ne 6, 3) := by decide +kernel
theorem dX6_load_32 : decode cX6_load 32 = .ok (.bipush (-2), 2) := by decide +kernel
theorem dX6_load_34 : decode cX6_load 34 = .ok (.ireturn, 1) := by decide +kernel
theorem dX6_load_35 : decode cX6_load 35 = .ok (.aload_n 0, 1) := by decide +kernel
theorem dX6_load_36 : decode cX6_load 36 = .ok (.getfield 29, 3) := by decide +kernel
theorem dX6_load_39 : decode cX6_load 39 = .ok (.aload_n 0, 1) := by decide +kernel
theorem dX6_load_40 : decode cX6_load 40 = .ok (.getfield 10, 3) := by decide +kernel
theorem dX6_load_43 : decode cX6_load 43 = .ok (.invokevirtual 44, 3) := by decide +kernel
theorem dX6_load_46 : decode cX6_load 46 = .ok (.aload_n 0, 1) := by decide +kernel
theorem dX6_load_47 : decode cX6_load 47 = .ok (.getfield 10, 3) := by decide +kernel
theorem dX6_load_50 : decode cX6_load 50 = .ok (.iload_n 1, 1) := by decide +kernel
theorem dX6_load_51 : decode cX6_load 51 = .ok (.iload_n 2, 1) := by decide +kernel
theorem dX6_load_52 : decode cX6_load 52 = .ok (.invokevirtual 71, 3) := by decide +kernel
theorem dX6_load_55 : decode cX6_load 55 = .ok (.ireturn, 1) := by decide +kernel
theorem dX6_setClock_0 : decode cX6_setClock 0 = .ok (.iload_n 1, 1) := by decide +kernel
theorem dX6_setClock_1 : decode cX6_setClock 1 = .ok (.iconst 0, 1) := by decide +kernel
theorem dX6_setClock_2 : decode cX6_setClock 2 = .ok (.ldc 75, 2) := by decide +kernel
theorem dX6_setClock_4 : decode cX6_setClock 4 = .ok (.invokestatic 67, 3) := by decide +kernel
theorem dX6_setClock_7 : decode cX6_setClock 7 = .ok (.ifCond .ne 5, 3) := by decide +kernel
theorem dX6_setClock_10 : decode cX6_setClock 10 = .ok (.iconst (-1), 1) := by decide +kernel
theorem dX6_setClock_11 : decode cX6_setClock 11 = .ok (.ireturn, 1) := by decide +kernel
theorem dX6_setClock_12 : decode cX6_setClock 12 = .ok (.aload_n 0, 1) := by decide +kernel
theorem dX6_setClock_13 : decode cX6_setClock 13 = .ok (.getfield 10, 3) := by decide +kernel
theorem dX6_setClock_16 : decode cX6_setClock 16 = .ok (.getfield 51, 3) := by decide +kernel
theorem dX6_setClock_19 : decode cX6_setClock 19 = .ok (.ifCond .ne 6, 3) := by decide +kernel
theorem dX6_setClock_22 : decode cX6_setClock 22 = .ok (.bipush (-2), 2) := by decide +kernel
theorem dX6_setClock_24 : decode cX6_setClock 24 = .ok (.ireturn, 1) := by decide +kernel
theorem dX6_setClock_25 : decode cX6_setClock 25 = .ok (.aload_n 0, 1) := by decide +kernel
theorem dX6_setClock_26 : decode cX6_setClock 26 = .ok (.getfield 29, 3) := by decide +kernel
theorem dX6_setClock_29 : decode cX6_setClock 29 = .ok (.aload_n 0, 1) := by decide +kernel
theorem dX6_setClock_30 : decode cX6_setClock 30 = .ok (.getfield 10, 3) := by decide +kernel
theorem dX6_setClock_33 : decode cX6_setClock 33 = .ok (.invokevirtual 44, 3) := by decide +kernel
theorem dX6_setClock_36 : decode cX6_setClock 36 = .ok (.aload_n 0, 1) := by decide +kernel
theorem dX6_setClock_37 : decode cX6_setClock 37 = .ok (.getfield 10, 3) := by decide +kernel
theorem dX6_setClock_40 : decode cX6_setClock 40 = .ok (.iload_n 1, 1) := by decide +kernel
theorem dX6_setClock_41 : decode cX6_setClock 41 = .ok (.invokevirtual 76, 3) := by decide +kernel
theorem dX6_setClock_44 : decode cX6_setClock 44 = .ok (.ireturn, 1) := by decide +kernel
theorem dX6_pass_0 : decode cX6_pass 0 = .ok (.iload_n 1, 1) := by decide +kernel
theorem dX6_pass_1 : decode cX6_pass 1 = .ok (.iconst 1, 1) := by decide +kernel
theorem dX6_pass_2 : decode cX6_pass 2 = .ok (.sipush 5000, 3) := by decide +kernel
theorem dX6_pass_5 : decode cX6_pass 5 = .ok (.invokestatic 67, 3) := by decide +kernel
theorem dX6_pass_8 : decode cX6_pass 8 = .ok (.ifCond .ne 5, 3) := by decide +kernel
theorem dX6_pass_11 : decode cX6_pass 11 = .ok (.iconst (-1), 1) := by decide +kernel
theorem dX6_pass_12 : decode cX6_pass 12 = .ok (.ireturn, 1) := by decide +kernel
theorem dX6_pass_13 : decode cX6_pass 13 = .ok (.aload_n 0, 1) := by decide +kernel
theorem dX6_pass_14 : decode cX6_pass 14 = .ok (.getfield 29, 3) := by decide +kernel
theorem dX6_pass_17 : decode cX6_pass 17 = .ok (.aload_n 0, 1) := by decide +kernel
theorem dX6_pass_18 : decode cX6_pass 18 = .ok (.getfield 10, 3) := by decide +kernel
theorem dX6_pass_21 : decode cX6_pass 21 = .ok (.invokevirtual 44, 3) := by decide +kernel
theorem dX6_pass_24 : decode cX6_pass 24 = .ok (.aload_n 0, 1) := by decide +kernel
theorem dX6_pass_25 : decode cX6_pass 25 = .ok (.getfield 10, 3) := by decide +kernel
theorem dX6_pass_28 : decode cX6_pass 28 = .ok (.aload_n 0, 1) := by decide +kernel
theorem dX6_pass_29 : decode cX6_pass 29 = .ok (.getfield 10, 3) := by decide +kernel
theorem dX6_pass_32 : decode cX6_pass 32 = .ok (.getfield 79, 3) := by decide +kernel
theorem dX6_pass_35 : decode cX6_pass 35 = .ok (.iload_n 1, 1) := by decide +kernel
theorem dX6_pass_36 : decode cX6_pass 36 = .ok (.iadd, 1) := by decide +kernel
theorem dX6_pass_37 : decode cX6_pass 37 = .ok (.ldc 75, 2) := by decide +kernel
theorem dX6_pass_39 : decode cX6_pass 39 = .ok (.invokestatic 83, 3) := by decide +kernel
theorem dX6_pass_42 : decode cX6_pass 42 = .ok (.putfield 79, 3) := by decide +kernel
theorem dX6_pass_45 : decode cX6_pass 45 = .ok (.aload_n 0, 1) := by decide +kernel
theorem dX6_pass_46 : decode cX6_pass 46 = .ok (.getfield 10, 3) := by decide +kernel
theorem dX6_pass_49 : decode cX6_pass 49 = .ok (.getfield 79, 3) := by decide +kernel
theorem dX6_pass_52 : decode cX6_pass 52 = .ok (.ireturn, 1) := by decide +kernel
theorem dX6_setPrice_0 : decode cX6_setPrice 0 = .ok (.iload_n 1, 1) := by decide +kernel
theorem dX6_setPrice_1 : decode cX6_setPrice 1 = .ok (.invokestatic 88, 3) := by decide +kernel
theorem dX6_setPrice_4 : decode cX6_setPrice 4 = .ok (.ifCond .eq 14, 3) := by decide +kernel
theorem dX6_setPrice_7 : decode cX6_setPrice 7 = .ok (.iload_n 2, 1) := by decide +kernel
theorem dX6_setPrice_8 : decode cX6_setPrice 8 = .ok (.iconst 1, 1) := by decide +kernel
theorem dX6_setPrice_9 : decode cX6_setPrice 9 = .ok (.sipush 999, 3) := by decide +kernel
theorem dX6_setPrice_12 : decode cX6_setPrice 12 = .ok (.invokestatic 67, 3) := by decide +kernel
theorem dX6_setPrice_15 : decode cX6_setPrice 15 = .ok (.ifCond .ne 5, 3) := by decide +kernel
theorem dX6_setPrice_18 : decode cX6_setPrice 18 = .ok (.iconst (-1), 1) := by decide +kernel
theorem dX6_setPrice_19 : decode cX6_setPrice 19 = .ok (.ireturn, 1) := by decide +kernel
theorem dX6_setPrice_20 : decode cX6_setPrice 20 = .ok (.aload_n 0, 1) := by decide +kernel
theorem dX6_setPrice_21 : decode cX6_setPrice 21 = .ok (.getfield 29, 3) := by decide +kernel
theorem dX6_setPrice_24 : decode cX6_setPrice 24 = .ok (.aload_n 0, 1) := by decide +kernel
theorem dX6_setPrice_25 : decode cX6_setPrice 25 = .ok (.getfield 10, 3) := by decide +kernel
theorem dX6_setPrice_28 : decode cX6_setPrice 28 = .ok (.invokevirtual 44, 3) := by decide +kernel
theorem dX6_setPrice_31 : decode cX6_setPrice 31 = .ok (.aload_n 0, 1) := by decide +kernel
theorem dX6_setPrice_32 : decode cX6_setPrice 32 = .ok (.getfield 10, 3) := by decide +kernel
theorem dX6_setPrice_35 : decode cX6_setPrice 35 = .ok (.iload_n 1, 1) := by decide +kernel
theorem dX6_setPrice_36 : decode cX6_setPrice 36 = .ok (.invokevirtual 92, 3) := by decide +kernel
theorem dX6_setPrice_39 : decode cX6_setPrice 39 = .ok (.istore_n 3, 1) := by decide +kernel
theorem dX6_setPrice_40 : decode cX6_setPrice 40 = .ok (.aload_n 0, 1) := by decide +kernel
theorem dX6_setPrice_41 : decode cX6_setPrice 41 = .ok (.getfield 10, 3) := by decide +kernel
theorem dX6_setPrice_44 : decode cX6_setPrice 44 = .ok (.iload_n 1, 1) := by decide +kernel
theorem dX6_setPrice_45 : decode cX6_setPrice 45 = .ok (.iload_n 2, 1) := by decide +kernel
theorem dX6_setPrice_46 : decode cX6_setPrice 46 = .ok (.invokevirtual 95, 3) := by decide +kernel
theorem dX6_setPrice_49 : decode cX6_setPrice 49 = .ok (.iload_n 3, 1) := by decide +kernel
theorem dX6_setPrice_50 : decode cX6_setPrice 50 = .ok (.ireturn, 1) := by decide +kernel
theorem dX6_cut_0 : decode cX6_cut 0 = .ok (.iload_n 1, 1) := by decide +kernel
theorem dX6_cut_1 : decode cX6_cut 1 = .ok (.iconst (-1), 1) := by decide +kernel
theorem dX6_cut_2 : decode cX6_cut 2 = .ok (.bipush 100, 2) := by decide +kernel
theorem dX6_cut_4 : decode cX6_cut 4 = .ok (.invokestatic 67, 3) := by decide +kernel
theorem dX6_cut_7 : decode cX6_cut 7 = .ok (.ifCond .ne 5, 3) := by decide +kernel
theorem dX6_cut_10 : decode cX6_cut 10 = .ok (.iconst (-1), 1) := by decide +kernel
theorem dX6_cut_11 : decode cX6_cut 11 = .ok (.ireturn, 1) := by decide +kernel
theorem dX6_cut_12 : decode cX6_cut 12 = .ok (.aload_n 0, 1) := by decide +kernel
theorem dX6_cut_13 : decode cX6_cut 13 = .ok (.getfield 29, 3) := by decide +kernel
theorem dX6_cut_16 : decode cX6_cut 16 = .ok (.aload_n 0, 1) := by decide +kernel
theorem dX6_cut_17 : decode cX6_cut 17 = .ok (.getfield 10, 3) := by decide +kernel
theorem dX6_cut_20 : decode cX6_cut 20 = .ok (.invokevirtual 44, 3) := by decide +kernel
theorem dX6_cut_23 : decode cX6_cut 23 = .ok (.aload_n 0, 1) := by decide +kernel
theorem dX6_cut_24 : decode cX6_cut 24 = .ok (.getfield 10, 3) := by decide +kernel
theorem dX6_cut_27 : decode cX6_cut 27 = .ok (.getfield 99, 3) := by decide +kernel
theorem dX6_cut_30 : decode cX6_cut 30 = .ok (.getfield 103, 3) := by decide +kernel
theorem dX6_cut_33 : decode cX6_cut 33 = .ok (.istore_n 2, 1) := by decide +kernel
theorem dX6_cut_34 : decode cX6_cut 34 = .ok (.aload_n 0, 1) := by decide +kernel
theorem dX6_cut_35 : decode cX6_cut 35 = .ok (.getfield 10, 3) := by decide +kernel
theorem dX6_cut_38 : decode cX6_cut 38 = .ok (.getfield 99, 3) := by decide +kernel
theorem dX6_cut_41 : decode cX6_cut 41 = .ok (.iload_n 1, 1) := by decide +kernel
theorem dX6_cut_42 : decode cX6_cut 42 = .ok (.ifCond .ge 8, 3) := by decide +kernel
theorem dX6_cut_45 : decode cX6_cut 45 = .ok (.bipush (-9), 2) := by decide +kernel
theorem dX6_cut_47 : decode cX6_cut 47 = .ok (.goto 4, 3) := by decide +kernel
theorem dX6_cut_50 : decode cX6_cut 50 = .ok (.iload_n 1, 1) := by decide +kernel
theorem dX6_cut_51 : decode cX6_cut 51 = .ok (.putfield 103, 3) := by decide +kernel
theorem dX6_cut_54 : decode cX6_cut 54 = .ok (.iload_n 2, 1) := by decide +kernel
theorem dX6_cut_55 : decode cX6_cut 55 = .ok (.ireturn, 1) := by decide +kernel
theorem dX6_off_0 : decode cX6_off 0 = .ok (.aload_n 0, 1) := by decide +kernel
theorem dX6_off_1 : decode cX6_off 1 = .ok (.getfield 10, 3) := by decide +kernel
theorem dX6_off_4 : decode cX6_off 4 = .ok (.getfield 51, 3) := by decide +kernel
theorem dX6_off_7 : decode cX6_off 7 = .ok (.ifCond .ne 6, 3) := by decide +kernel
theorem dX6_off_10 : decode cX6_off 10 = .ok (.bipush (-2), 2) := by decide +kernel
theorem dX6_off_12 : decode cX6_off 12 = .ok (.ireturn, 1) := by decide +kernel
theorem dX6_off_13 : decode cX6_off 13 = .ok (.aload_n 0, 1) := by decide +kernel
theorem dX6_off_14 : decode cX6_off 14 = .ok (.getfield 29, 3) := by decide +kernel
theorem dX6_off_17 : decode cX6_off 17 = .ok (.aload_n 0, 1) := by decide +kernel
theorem dX6_off_18 : decode cX6_off 18 = .ok (.getfield 10, 3) := by decide +kernel
theorem dX6_off_21 : decode cX6_off 21 = .ok (.invokevirtual 44, 3) := by decide +kernel
theorem dX6_off_24 : decode cX6_off 24 = .ok (.aload_n 0, 1) := by decide +kernel
theorem dX6_off_25 : decode cX6_off 25 = .ok (.getfield 10, 3) := by decide +kernel
theorem dX6_off_28 : decode cX6_off 28 = .ok (.invokevirtual 108, 3) := by decide +kernel
theorem dX6_off_31 : decode cX6_off 31 = .ok (.aload_n 0, 1) := by decide +kernel
theorem dX6_off_32 : decode cX6_off 32 = .ok (.getfield 10, 3) := by decide +kernel
theorem dX6_off_35 : decode cX6_off 35 = .ok (.getfield 99, 3) := by decide +kernel
theorem dX6_off_38 : decode cX6_off 38 = .ok (.iconst 1, 1) := by decide +kernel
theorem dX6_off_39 : decode cX6_off 39 = .ok (.invokevirtual 111, 3) := by decide +kernel
theorem dX6_off_42 : decode cX6_off 42 = .ok (.ireturn, 1) := by decide +kernel
theorem dX6_start_0 : decode cX6_start 0 = .ok (.aload_n 0, 1) := by decide +kernel
theorem dX6_start_1 : decode cX6_start 1 = .ok (.getfield 10, 3) := by decide +kernel
theorem dX6_start_4 : decode cX6_start 4 = .ok (.getfield 51, 3) := by decide +kernel
theorem dX6_start_7 : decode cX6_start 7 = .ok (.ifCond .eq 6, 3) := by decide +kernel
theorem dX6_start_10 : decode cX6_start 10 = .ok (.bipush (-2), 2) := by decide +kernel
theorem dX6_start_12 : decode cX6_start 12 = .ok (.ireturn, 1) := by decide +kernel
theorem dX6_start_13 : decode cX6_start 13 = .ok (.aload_n 0, 1) := by decide +kernel
theorem dX6_start_14 : decode cX6_start 14 = .ok (.getfield 29, 3) := by decide +kernel
theorem dX6_start_17 : decode cX6_start 17 = .ok (.aload_n 0, 1) := by decide +kernel
theorem dX6_start_18 : decode cX6_start 18 = .ok (.getfield 10, 3) := by decide +kernel
theorem dX6_start_21 : decode cX6_start 21 = .ok (.invokevirtual 44, 3) := by decide +kernel
theorem dX6_start_24 : decode cX6_start 24 = .ok (.aload_n 0, 1) := by decide +kernel
theorem dX6_start_25 : decode cX6_start 25 = .ok (.getfield 10, 3) := by decide +kernel
theorem dX6_start_28 : decode cX6_start 28 = .ok (.invokevirtual 114, 3) := by decide +kernel
theorem dX6_start_31 : decode cX6_start 31 = .ok (.aload_n 0, 1) := by decide +kernel
theorem dX6_start_32 : decode cX6_start 32 = .ok (.getfield 10, 3) := by decide +kernel
theorem dX6_start_35 : decode cX6_start 35 = .ok (.getfield 117, 3) := by decide +kernel
theorem dX6_start_38 : decode cX6_start 38 = .ok (.getfield 121, 3) := by decide +kernel
theorem dX6_start_41 : decode cX6_start 41 = .ok (.ireturn, 1) := by decide +kernel
theorem dX6_undo_0 : decode cX6_undo 0 = .ok (.aload_n 0, 1) := by decide +kernel
theorem dX6_undo_1 : decode cX6_undo 1 = .ok (.getfield 29, 3) := by decide +kernel
theorem dX6_undo_4 : decode cX6_undo 4 = .ok (.getfield 126, 3) := by decide +kernel
theorem dX6_undo_7 : decode cX6_undo 7 = .ok (.ifCond .ne 6, 3) := by decide +kernel
theorem dX6_undo_10 : decode cX6_undo 10 = .ok (.bipush (-2), 2) := by decide +kernel
theorem dX6_undo_12 : decode cX6_undo 12 = .ok (.ireturn, 1) := by decide +kernel
theorem dX6_undo_13 : decode cX6_undo 13 = .ok (.aload_n 0, 1) := by decide +kernel
theorem dX6_undo_14 : decode cX6_undo 14 = .ok (.getfield 29, 3) := by decide +kernel
theorem dX6_undo_17 : decode cX6_undo 17 = .ok (.aload_n 0, 1) := by decide +kernel
theorem dX6_undo_18 : decode cX6_undo 18 = .ok (.getfield 10, 3) := by decide +kernel
theorem dX6_undo_21 : decode cX6_undo 21 = .ok (.invokevirtual 129, 3) := by decide +kernel
theorem dX6_undo_24 : decode cX6_undo 24 = .ok (.aload_n 0, 1) := by decide +kernel
theorem dX6_undo_25 : decode cX6_undo 25 = .ok (.getfield 29, 3) := by decide +kernel
theorem dX6_undo_28 : decode cX6_undo 28 = .ok (.getfield 126, 3) := by decide +kernel
theorem dX6_undo_31 : decode cX6_undo 31 = .ok (.ireturn, 1) := by decide +kernel
theorem dX6_told_0 : decode cX6_told 0 = .ok (.iload_n 1, 1) := by decide +kernel
theorem dX6_told_1 : decode cX6_told 1 = .ok (.tableswitch 137 0 12 #[67, 83, 137, 137, 137, 137, 137, 137, 91, 99, 107, 118, 129], 67) := by decide +kernel
theorem dX6_told_68 : decode cX6_told 68 = .ok (.aload_n 0, 1) := by decide +kernel
theorem dX6_told_69 : decode cX6_told 69 = .ok (.getfield 10, 3) := by decide +kernel
theorem dX6_told_72 : decode cX6_told 72 = .ok (.getfield 51, 3) := by decide +kernel
theorem dX6_told_75 : decode cX6_told 75 = .ok (.ifCond .eq 7, 3) := by decide +kernel
theorem dX6_told_78 : decode cX6_told 78 = .ok (.iconst 1, 1) := by decide +kernel
theorem dX6_told_79 : decode cX6_told 79 = .ok (.goto 4, 3) := by decide +kernel
theorem dX6_told_82 : decode cX6_told 82 = .ok (.iconst 0, 1) := by decide +kernel
theorem dX6_told_83 : decode cX6_told 83 = .ok (.ireturn, 1) := by decide +kernel
theorem dX6_told_84 : decode cX6_told 84 = .ok (.aload_n 0, 1) := by decide +kernel
theorem dX6_told_85 : decode cX6_told 85 = .ok (.getfield 10, 3) := by decide +kernel
theorem dX6_told_88 : decode cX6_told 88 = .ok (.getfield 79, 3) := by decide +kernel
theorem dX6_told_91 : decode cX6_told 91 = .ok (.ireturn, 1) := by decide +kernel
theorem dX6_told_92 : decode cX6_told 92 = .ok (.aload_n 0, 1) := by decide +kernel
theorem dX6_told_93 : decode cX6_told 93 = .ok (.getfield 10, 3) := by decide +kernel
theorem dX6_told_96 : decode cX6_told 96 = .ok (.getfield 132, 3) := by decide +kernel
theorem dX6_told_99 : decode cX6_told 99 = .ok (.ireturn, 1) := by decide +kernel
theorem dX6_told_100 : decode cX6_told 100 = .ok (.aload_n 0, 1) := by decide +kernel
theorem dX6_told_101 : decode cX6_told 101 = .ok (.getfield 10, 3) := by decide +kernel
theorem dX6_told_104 : decode cX6_told 104 = .ok (.getfield 135, 3) := by decide +kernel
theorem dX6_told_107 : decode cX6_told 107 = .ok (.ireturn, 1) := by decide +kernel
theorem dX6_told_108 : decode cX6_told 108 = .ok (.aload_n 0, 1) := by decide +kernel
theorem dX6_told_109 : decode cX6_told 109 = .ok (.getfield 10, 3) := by decide +kernel
theorem dX6_told_112 : decode cX6_told 112 = .ok (.getfield 99, 3) := by decide +kernel
theorem dX6_told_115 : decode cX6_told 115 = .ok (.getfield 138, 3) := by decide +kernel
theorem dX6_told_118 : decode cX6_told 118 = .ok (.ireturn, 1) := by decide +kernel
theorem dX6_told_119 : decode cX6_told 119 = .ok (.aload_n 0, 1) := by decide +kernel
theorem dX6_told_120 : decode cX6_told 120 = .ok (.getfield 10, 3) := by decide +kernel
theorem dX6_told_123 : decode cX6_told 123 = .ok (.getfield 99, 3) := by decide +kernel
theorem dX6_told_126 : decode cX6_told 126 = .ok (.getfield 103, 3) := by decide +kernel
theorem dX6_told_129 : decode cX6_told 129 = .ok (.ireturn, 1) := by decide +kernel
theorem dX6_told_130 : decode cX6_told 130 = .ok (.aload_n 0, 1) := by decide +kernel
theorem dX6_told_131 : decode cX6_told 131 = .ok (.getfield 29, 3) := by decide +kernel
theorem dX6_told_134 : decode cX6_told 134 = .ok (.getfield 126, 3) := by decide +kernel
theorem dX6_told_137 : decode cX6_told 137 = .ok (.ireturn, 1) := by decide +kernel
theorem dX6_told_138 : decode cX6_told 138 = .ok (.iload_n 1, 1) := by decide +kernel
theorem dX6_told_139 : decode cX6_told 139 = .ok (.iconst 2, 1) := by decide +kernel
theorem dX6_told_140 : decode cX6_told 140 = .ok (.bipush 7, 2) := by decide +kernel
theorem dX6_told_142 : decode cX6_told 142 = .ok (.invokestatic 67, 3) := by decide +kernel
theorem dX6_told_145 : decode cX6_told 145 = .ok (.ifCond .eq 11, 3) := by decide +kernel
theorem dX6_told_148 : decode cX6_told 148 = .ok (.aload_n 0, 1) := by decide +kernel
theorem dX6_told_149 : decode cX6_told 149 = .ok (.iload_n 1, 1) := by decide +kernel
theorem dX6_told_150 : decode cX6_told 150 = .ok (.invokevirtual 141, 3) := by decide +kernel
theorem dX6_told_153 : decode cX6_told 153 = .ok (.goto 4, 3) := by decide +kernel
theorem dX6_told_156 : decode cX6_told 156 = .ok (.iconst (-1), 1) := by decide +kernel
theorem dX6_told_157 : decode cX6_told 157 = .ok (.ireturn, 1) := by decide +kernel
theorem dX6_knownNumber_0 : decode cX6_knownNumber 0 = .ok (.aload_n 0, 1) := by decide +kernel
theorem dX6_knownNumber_1 : decode cX6_knownNumber 1 = .ok (.getfield 10, 3) := by decide +kernel
theorem dX6_knownNumber_4 : decode cX6_knownNumber 4 = .ok (.getfield 51, 3) := by decide +kernel
theorem dX6_knownNumber_7 : decode cX6_knownNumber 7 = .ok (.ifCond .ne 6, 3) := by decide +kernel
theorem dX6_knownNumber_10 : decode cX6_knownNumber 10 = .ok (.bipush (-9), 2) := by decide +kernel
theorem dX6_knownNumber_12 : decode cX6_knownNumber 12 = .ok (.ireturn, 1) := by decide +kernel
theorem dX6_knownNumber_13 : decode cX6_knownNumber 13 = .ok (.iload_n 1, 1) := by decide +kernel
theorem dX6_knownNumber_14 : decode cX6_knownNumber 14 = .ok (.tableswitch 89 2 6 #[34, 45, 56, 67, 78], 34) := by decide +kernel
theorem dX6_knownNumber_48 : decode cX6_knownNumber 48 = .ok (.aload_n 0, 1) := by decide +kernel
theorem dX6_knownNumber_49 : decode cX6_knownNumber 49 = .ok (.getfield 10, 3) := by decide +kernel
theorem dX6_knownNumber_52 : decode cX6_knownNumber 52 = .ok (.getfield 117, 3) := by decide +kernel
theorem dX6_knownNumber_55 : decode cX6_knownNumber 55 = .ok (.getfield 121, 3) := by decide +kernel
theorem dX6_knownNumber_58 : decode cX6_knownNumber 58 = .ok (.ireturn, 1) := by decide +kernel
theorem dX6_knownNumber_59 : decode cX6_knownNumber 59 = .ok (.aload_n 0, 1) := by decide +kernel
theorem dX6_knownNumber_60 : decode cX6_knownNumber 60 = .ok (.getfield 10, 3) := by decide +kernel
theorem dX6_knownNumber_63 : decode cX6_knownNumber 63 = .ok (.getfield 117, 3) := by decide +kernel
theorem dX6_knownNumber_66 : decode cX6_knownNumber 66 = .ok (.getfield 144, 3) := by decide +kernel
theorem dX6_knownNumber_69 : decode cX6_knownNumber 69 = .ok (.ireturn, 1) := by decide +kernel
theorem dX6_knownNumber_70 : decode cX6_knownNumber 70 = .ok (.aload_n 0, 1) := by decide +kernel
theorem dX6_knownNumber_71 : decode cX6_knownNumber 71 = .ok (.getfield 10, 3) := by decide +kernel
theorem dX6_knownNumber_74 : decode cX6_knownNumber 74 = .ok (.getfield 117, 3) := by decide +kernel
theorem dX6_knownNumber_77 : decode cX6_knownNumber 77 = .ok (.getfield 147, 3) := by decide +kernel
theorem dX6_knownNumber_80 : decode cX6_knownNumber 80 = .ok (.ireturn, 1) := by decide +kernel
theorem dX6_knownNumber_81 : decode cX6_knownNumber 81 = .ok (.aload_n 0, 1) := by decide +kernel
theorem dX6_knownNumber_82 : decode cX6_knownNumber 82 = .ok (.getfield 10, 3) := by decide +kernel
theorem dX6_knownNumber_85 : decode cX6_knownNumber 85 = .ok (.getfield 117, 3) := by decide +kernel
theorem dX6_knownNumber_88 : decode cX6_knownNumber 88 = .ok (.getfield 150, 3) := by decide +kernel
theorem dX6_knownNumber_91 : decode cX6_knownNumber 91 = .ok (.ireturn, 1) := by decide +kernel
theorem dX6_knownNumber_92 : decode cX6_knownNumber 92 = .ok (.aload_n 0, 1) := by decide +kernel
theorem dX6_knownNumber_93 : decode cX6_knownNumber 93 = .ok (.getfield 10, 3) := by decide +kernel
theorem dX6_knownNumber_96 : decode cX6_knownNumber 96 = .ok (.getfield 117, 3) := by decide +kernel
theorem dX6_knownNumber_99 : decode cX6_knownNumber 99 = .ok (.getfield 153, 3) := by decide +kernel
theorem dX6_knownNumber_102 : decode cX6_knownNumber 102 = .ok (.ireturn, 1) := by decide +kernel
theorem dX6_knownNumber_103 : decode cX6_knownNumber 103 = .ok (.aload_n 0, 1) := by decide +kernel
theorem dX6_knownNumber_104 : decode cX6_knownNumber 104 = .ok (.getfield 10, 3) := by decide +kernel
theorem dX6_knownNumber_107 : decode cX6_knownNumber 107 = .ok (.getfield 117, 3) := by decide +kernel
theorem dX6_knownNumber_110 : decode cX6_knownNumber 110 = .ok (.getfield 156, 3) := by decide +kernel
theorem dX6_knownNumber_113 : decode cX6_knownNumber 113 = .ok (.ireturn, 1) := by decide +kernel
theorem dX6_word_0 : decode cX6_word 0 = .ok (.iload_n 1, 1) := by decide +kernel
theorem dX6_word_1 : decode cX6_word 1 = .ok (.invokestatic 159, 3) := by decide +kernel
theorem dX6_word_4 : decode cX6_word 4 = .ok (.ifCond .eq 28, 3) := by decide +kernel
theorem dX6_word_7 : decode cX6_word 7 = .ok (.iload_n 2, 1) := by decide +kernel
theorem dX6_word_8 : decode cX6_word 8 = .ok (.iconst 0, 1) := by decide +kernel
theorem dX6_word_9 : decode cX6_word 9 = .ok (.bipush 21, 2) := by decide +kernel
theorem dX6_word_11 : decode cX6_word 11 = .ok (.invokestatic 67, 3) := by decide +kernel
theorem dX6_word_14 : decode cX6_word 14 = .ok (.ifCond .eq 18, 3) := by decide +kernel
theorem dX6_word_17 : decode cX6_word 17 = .ok (.aload_n 0, 1) := by decide +kernel
theorem dX6_word_18 : decode cX6_word 18 = .ok (.getfield 10, 3) := by decide +kernel
theorem dX6_word_21 : decode cX6_word 21 = .ok (.getfield 99, 3) := by decide +kernel
theorem dX6_word_24 : decode cX6_word 24 = .ok (.iload_n 1, 1) := by decide +kernel
theorem dX6_word_25 : decode cX6_word 25 = .ok (.iload_n 2, 1) := by decide +kernel
theorem dX6_word_26 : decode cX6_word 26 = .ok (.invokevirtual 162, 3) := by decide +kernel
theorem dX6_word_29 : decode cX6_word 29 = .ok (.goto 4, 3) := by decide +kernel
theorem dX6_word_32 : decode cX6_word 32 = .ok (.iconst (-1), 1) := by decide +kernel
theorem dX6_word_33 : decode cX6_word 33 = .ok (.ireturn, 1) := by decide +kernel
theorem dX6_block_0 : decode cX6_block 0 = .ok (.iload_n 1, 1) := by decide +kernel
theorem dX6_block_1 : decode cX6_block 1 = .ok (.invokestatic 159, 3) := by decide +kernel
theorem dX6_block_4 : decode cX6_block 4 = .ok (.ifCond .ne 5, 3) := by decide +kernel
theorem dX6_block_7 : decode cX6_block 7 = .ok (.iconst (-1), 1) := by decide +kernel
theorem dX6_block_8 : decode cX6_block 8 = .ok (.ireturn, 1) := by decide +kernel
theorem dX6_block_9 : decode cX6_block 9 = .ok (.aload_n 0, 1) := by decide +kernel
theorem dX6_block_10 : decode cX6_block 10 = .ok (.getfield 10, 3) := by decide +kernel
theorem dX6_block_13 : decode cX6_block 13 = .ok (.getfield 99, 3) := by decide +kernel
theorem dX6_block_16 : decode cX6_block 16 = .ok (.astore_n 3, 1) := by decide +kernel
theorem dX6_block_17 : decode cX6_block 17 = .ok (.iload_n 2, 1) := by decide +kernel
theorem dX6_block_18 : decode cX6_block 18 = .ok (.tableswitch 88 0 4 #[34, 48, 68, 75, 82], 34) := by decide +kernel
theorem dX6_block_52 : decode cX6_block 52 = .ok (.aload_n 3, 1) := by decide +kernel
theorem dX6_block_53 : decode cX6_block 53 = .ok (.iload_n 1, 1) := by decide +kernel
theorem dX6_block_54 : decode cX6_block 54 = .ok (.invokevirtual 165, 3) := by decide +kernel
theorem dX6_block_57 : decode cX6_block 57 = .ok (.ifCond .eq 7, 3) := by decide +kernel
theorem dX6_block_60 : decode cX6_block 60 = .ok (.iconst 1, 1) := by decide +kernel
theorem dX6_block_61 : decode cX6_block 61 = .ok (.goto 4, 3) := by decide +kernel
theorem dX6_block_64 : decode cX6_block 64 = .ok (.iconst 0, 1) := by decide +kernel
theorem dX6_block_65 : decode cX6_block 65 = .ok (.ireturn, 1) := by decide +kernel
theorem dX6_block_66 : decode cX6_block 66 = .ok (.aload_n 3, 1) := by decide +kernel
theorem dX6_block_67 : decode cX6_block 67 = .ok (.iload_n 1, 1) := by decide +kernel
theorem dX6_block_68 : decode cX6_block 68 = .ok (.invokevirtual 165, 3) := by decide +kernel
theorem dX6_block_71 : decode cX6_block 71 = .ok (.ifCond .eq 12, 3) := by decide +kernel
theorem dX6_block_74 : decode cX6_block 74 = .ok (.aload_n 3, 1) := by decide +kernel
theorem dX6_block_75 : decode cX6_block 75 = .ok (.iload_n 1, 1) := by decide +kernel
theorem dX6_block_76 : decode cX6_block 76 = .ok (.iconst 0, 1) := by decide +kernel
theorem dX6_block_77 : decode cX6_block 77 = .ok (.invokevirtual 162, 3) := by decide +kernel
theorem dX6_block_80 : decode cX6_block 80 = .ok (.goto 5, 3) := by decide +kernel
theorem dX6_block_83 : decode cX6_block 83 = .ok (.bipush (-9), 2) := by decide +kernel
theorem dX6_block_85 : decode cX6_block 85 = .ok (.ireturn, 1) := by decide +kernel
theorem dX6_block_86 : decode cX6_block 86 = .ok (.aload_n 3, 1) := by decide +kernel
theorem dX6_block_87 : decode cX6_block 87 = .ok (.iload_n 1, 1) := by decide +kernel
theorem dX6_block_88 : decode cX6_block 88 = .ok (.iconst 1, 1) := by decide +kernel
theorem dX6_block_89 : decode cX6_block 89 = .ok (.invokevirtual 168, 3) := by decide +kernel
theorem dX6_block_92 : decode cX6_block 92 = .ok (.ireturn, 1) := by decide +kernel
theorem dX6_block_93 : decode cX6_block 93 = .ok (.aload_n 3, 1) := by decide +kernel
theorem dX6_block_94 : decode cX6_block 94 = .ok (.iload_n 1, 1) := by decide +kernel
theorem dX6_block_95 : decode cX6_block 95 = .ok (.iconst 2, 1) := by decide +kernel
theorem dX6_block_96 : decode cX6_block 96 = .ok (.invokevirtual 168, 3) := by decide +kernel
theorem dX6_block_99 : decode cX6_block 99 = .ok (.ireturn, 1) := by decide +kernel
theorem dX6_block_100 : decode cX6_block 100 = .ok (.aload_n 3, 1) := by decide +kernel
theorem dX6_block_101 : decode cX6_block 101 = .ok (.iload_n 1, 1) := by decide +kernel
theorem dX6_block_102 : decode cX6_block 102 = .ok (.invokevirtual 171, 3) := by decide +kernel
theorem dX6_block_105 : decode cX6_block 105 = .ok (.ireturn, 1) := by decide +kernel
theorem dX6_block_106 : decode cX6_block 106 = .ok (.iconst (-1), 1) := by decide +kernel
theorem dX6_block_107 : decode cX6_block 107 = .ok (.ireturn, 1) := by decide +kernel
theorem dX6_records_0 : decode cX6_records 0 = .ok (.iload_n 1, 1) := by decide +kernel
theorem dX6_records_1 : decode cX6_records 1 = .ok (.lookupswitch 51 #[(-2, 27), (-1, 39)], 27) := by decide +kernel
theorem dX6_records_28 : decode cX6_records 28 = .ok (.aload_n 0, 1) := by decide +kernel
theorem dX6_records_29 : decode cX6_records 29 = .ok (.getfield 10, 3) := by decide +kernel
theorem dX6_records_32 : decode cX6_records 32 = .ok (.getfield 99, 3) := by decide +kernel
theorem dX6_records_35 : decode cX6_records 35 = .ok (.iconst 2, 1) := by decide +kernel
theorem dX6_records_36 : decode cX6_records 36 = .ok (.invokevirtual 111, 3) := by decide +kernel
theorem dX6_records_39 : decode cX6_records 39 = .ok (.ireturn, 1) := by decide +kernel
theorem dX6_records_40 : decode cX6_records 40 = .ok (.aload_n 0, 1) := by decide +kernel
theorem dX6_records_41 : decode cX6_records 41 = .ok (.getfield 10, 3) := by decide +kernel
theorem dX6_records_44 : decode cX6_records 44 = .ok (.getfield 99, 3) := by decide +kernel
theorem dX6_records_47 : decode cX6_records 47 = .ok (.iconst 1, 1) := by decide +kernel
theorem dX6_records_48 : decode cX6_records 48 = .ok (.invokevirtual 111, 3) := by decide +kernel
theorem dX6_records_51 : decode cX6_records 51 = .ok (.ireturn, 1) := by decide +kernel
theorem dX6_records_52 : decode cX6_records 52 = .ok (.iload_n 1, 1) := by decide +kernel
theorem dX6_records_53 : decode cX6_records 53 = .ok (.iconst 0, 1) := by decide +kernel
theorem dX6_records_54 : decode cX6_records 54 = .ok (.iconst 4, 1) := by decide +kernel
theorem dX6_records_55 : decode cX6_records 55 = .ok (.invokestatic 67, 3) := by decide +kernel
theorem dX6_records_58 : decode cX6_records 58 = .ok (.ifCond .eq 24, 3) := by decide +kernel
theorem dX6_records_61 : decode cX6_records 61 = .ok (.aload_n 0, 1) := by decide +kernel
theorem dX6_records_62 : decode cX6_records 62 = .ok (.getfield 22, 3) := by decide +kernel
theorem dX6_records_65 : decode cX6_records 65 = .ok (.aload_n 0, 1) := by decide +kernel
theorem dX6_records_66 : decode cX6_records 66 = .ok (.getfield 10, 3) := by decide +kernel
theorem dX6_records_69 : decode cX6_records 69 = .ok (.getfield 99, 3) := by decide +kernel
theorem dX6_records_72 : decode cX6_records 72 = .ok (.invokevirtual 174, 3) := by decide +kernel
theorem dX6_records_75 : decode cX6_records 75 = .ok (.iload_n 1, 1) := by decide +kernel
theorem dX6_records_76 : decode cX6_records 76 = .ok (.invokevirtual 178, 3) := by decide +kernel
theorem dX6_records_79 : decode cX6_records 79 = .ok (.goto 4, 3) := by decide +kernel
theorem dX6_records_82 : decode cX6_records 82 = .ok (.iconst (-1), 1) := by decide +kernel
theorem dX6_records_83 : decode cX6_records 83 = .ok (.ireturn, 1) := by decide +kernel
theorem dX6_record_0 : decode cX6_record 0 = .ok (.iload_n 1, 1) := by decide +kernel
theorem dX6_record_1 : decode cX6_record 1 = .ok (.ifCond .lt 12, 3) := by decide +kernel
theorem dX6_record_4 : decode cX6_record 4 = .ok (.iload_n 2, 1) := by decide +kernel
theorem dX6_record_5 : decode cX6_record 5 = .ok (.iconst 0, 1) := by decide +kernel
theorem dX6_record_6 : decode cX6_record 6 = .ok (.iconst 5, 1) := by decide +kernel
theorem dX6_record_7 : decode cX6_record 7 = .ok (.invokestatic 67, 3) := by decide +kernel
theorem dX6_record_10 : decode cX6_record 10 = .ok (.ifCond .ne 5, 3) := by decide +kernel
theorem dX6_record_13 : decode cX6_record 13 = .ok (.iconst (-1), 1) := by decide +kernel
theorem dX6_record_14 : decode cX6_record 14 = .ok (.ireturn, 1) := by decide +kernel
theorem dX6_record_15 : decode cX6_record 15 = .ok (.aload_n 0, 1) := by decide +kernel
theorem dX6_record_16 : decode cX6_record 16 = .ok (.getfield 22, 3) := by decide +kernel
theorem dX6_record_19 : decode cX6_record 19 = .ok (.aload_n 0, 1) := by decide +kernel
theorem dX6_record_20 : decode cX6_record 20 = .ok (.getfield 10, 3) := by decide +kernel
theorem dX6_record_23 : decode cX6_record 23 = .ok (.getfield 99, 3) := by decide +kernel
theorem dX6_record_26 : decode cX6_record 26 = .ok (.invokevirtual 174, 3) := by decide +kernel
theorem dX6_record_29 : decode cX6_record 29 = .ok (.iload_n 1, 1) := by decide +kernel
theorem dX6_record_30 : decode cX6_record 30 = .ok (.iload_n 2, 1) := by decide +kernel
theorem dX6_record_31 : decode cX6_record 31 = .ok (.invokevirtual 181, 3) := by decide +kernel
theorem dX6_record_34 : decode cX6_record 34 = .ok (.ireturn, 1) := by decide +kernel
theorem dX6_takings_0 : decode cX6_takings 0 = .ok (.iload_n 1, 1) := by decide +kernel
theorem dX6_takings_1 : decode cX6_takings 1 = .ok (.iconst (-1), 1) := by decide +kernel
theorem dX6_takings_2 : decode cX6_takings 2 = .ok (.if_icmp .eq 12, 3) := by decide +kernel
theorem dX6_takings_5 : decode cX6_takings 5 = .ok (.iload_n 1, 1) := by decide +kernel
theorem dX6_takings_6 : decode cX6_takings 6 = .ok (.invokestatic 88, 3) := by decide +kernel
theorem dX6_takings_9 : decode cX6_takings 9 = .ok (.ifCond .ne 5, 3) := by decide +kernel
theorem dX6_takings_12 : decode cX6_takings 12 = .ok (.iconst (-1), 1) := by decide +kernel
theorem dX6_takings_13 : decode cX6_takings 13 = .ok (.ireturn, 1) := by decide +kernel
theorem dX6_takings_14 : decode cX6_takings 14 = .ok (.aload_n 0, 1) := by decide +kernel
theorem dX6_takings_15 : decode cX6_takings 15 = .ok (.getfield 22, 3) := by decide +kernel
theorem dX6_takings_18 : decode cX6_takings 18 = .ok (.aload_n 0, 1) := by decide +kernel
theorem dX6_takings_19 : decode cX6_takings 19 = .ok (.getfield 10, 3) := by decide +kernel
theorem dX6_takings_22 : decode cX6_takings 22 = .ok (.getfield 99, 3) := by decide +kernel
theorem dX6_takings_25 : decode cX6_takings 25 = .ok (.invokevirtual 174, 3) := by decide +kernel
theorem dX6_takings_28 : decode cX6_takings 28 = .ok (.astore_n 2, 1) := by decide +kernel
theorem dX6_takings_29 : decode cX6_takings 29 = .ok (.aload_n 2, 1) := by decide +kernel
theorem dX6_takings_30 : decode cX6_takings 30 = .ok (.iconst 0, 1) := by decide +kernel
theorem dX6_takings_31 : decode cX6_takings 31 = .ok (.iload_n 1, 1) := by decide +kernel
theorem dX6_takings_32 : decode cX6_takings 32 = .ok (.invokevirtual 184, 3) := by decide +kernel
theorem dX6_takings_35 : decode cX6_takings 35 = .ok (.aload_n 2, 1) := by decide +kernel
theorem dX6_takings_36 : decode cX6_takings 36 = .ok (.iconst 1, 1) := by decide +kernel
theorem dX6_takings_37 : decode cX6_takings 37 = .ok (.iload_n 1, 1) := by decide +kernel
theorem dX6_takings_38 : decode cX6_takings 38 = .ok (.invokevirtual 184, 3) := by decide +kernel
theorem dX6_takings_41 : decode cX6_takings 41 = .ok (.isub, 1) := by decide +kernel
theorem dX6_takings_42 : decode cX6_takings 42 = .ok (.ireturn, 1) := by decide +kernel
theorem dX6_mean_0 : decode cX6_mean 0 = .ok (.aload_n 0, 1) := by decide +kernel
theorem dX6_mean_1 : decode cX6_mean 1 = .ok (.getfield 22, 3) := by decide +kernel
theorem dX6_mean_4 : decode cX6_mean 4 = .ok (.aload_n 0, 1) := by decide +kernel
theorem dX6_mean_5 : decode cX6_mean 5 = .ok (.getfield 10, 3) := by decide +kernel
theorem dX6_mean_8 : decode cX6_mean 8 = .ok (.getfield 99, 3) := by decide +kernel
theorem dX6_mean_11 : decode cX6_mean 11 = .ok (.invokevirtual 174, 3) := by decide +kernel
theorem dX6_mean_14 : decode cX6_mean 14 = .ok (.astore_n 1, 1) := by decide +kernel
theorem dX6_mean_15 : decode cX6_mean 15 = .ok (.aload_n 1, 1) := by decide +kernel
theorem dX6_mean_16 : decode cX6_mean 16 = .ok (.iconst 0, 1) := by decide +kernel
theorem dX6_mean_17 : decode cX6_mean 17 = .ok (.invokevirtual 178, 3) := by decide +kernel
theorem dX6_mean_20 : decode cX6_mean 20 = .ok (.istore_n 2, 1) := by decide +kernel
theorem dX6_mean_21 : decode cX6_mean 21 = .ok (.iload_n 2, 1) := by decide +kernel
theorem dX6_mean_22 : decode cX6_mean 22 = .ok (.ifCond .ne 7, 3) := by decide +kernel
theorem dX6_mean_25 : decode cX6_mean 25 = .ok (.fconst 0, 1) := by decide +kernel
theorem dX6_mean_26 : decode cX6_mean 26 = .ok (.goto 13, 3) := by decide +kernel
theorem dX6_mean_29 : decode cX6_mean 29 = .ok (.aload_n 1, 1) := by decide +kernel
theorem dX6_mean_30 : decode cX6_mean 30 = .ok (.iconst 0, 1) := by decide +kernel
theorem dX6_mean_31 : decode cX6_mean 31 = .ok (.iconst (-1), 1) := by decide +kernel
theorem dX6_mean_32 : decode cX6_mean 32 = .ok (.invokevirtual 184, 3) := by decide +kernel
theorem dX6_mean_35 : decode cX6_mean 35 = .ok (.i2f, 1) := by decide +kernel
theorem dX6_mean_36 : decode cX6_mean 36 = .ok (.iload_n 2, 1) := by decide +kernel
theorem dX6_mean_37 : decode cX6_mean 37 = .ok (.i2f, 1) := by decide +kernel
theorem dX6_mean_38 : decode cX6_mean 38 = .ok (.fdiv, 1) := by decide +kernel
theorem dX6_mean_39 : decode cX6_mean 39 = .ok (.freturn, 1) := by decide +kernel
theorem dX6_operations_0 : decode cX6_operations 0 = .ok (.aload_n 0, 1) := by decide +kernel
theorem dX6_operations_1 : decode cX6_operations 1 = .ok (.getfield 10, 3) := by decide +kernel
theorem dX6_operations_4 : decode cX6_operations 4 = .ok (.iload_n 1, 1) := by decide +kernel
theorem dX6_operations_5 : decode cX6_operations 5 = .ok (.invokevirtual 40, 3) := by decide +kernel
theorem dX6_operations_8 : decode cX6_operations 8 = .ok (.istore_n 2, 1) := by decide +kernel
theorem dX6_operations_9 : decode cX6_operations 9 = .ok (.iload_n 2, 1) := by decide +kernel
theorem dX6_operations_10 : decode cX6_operations 10 = .ok (.ifCond .eq 5, 3) := by decide +kernel
theorem dX6_operations_13 : decode cX6_operations 13 = .ok (.iload_n 2, 1) := by decide +kernel
theorem dX6_operations_14 : decode cX6_operations 14 = .ok (.ireturn, 1) := by decide +kernel
theorem dX6_operations_15 : decode cX6_operations 15 = .ok (.aload_n 0, 1) := by decide +kernel
theorem dX6_operations_16 : decode cX6_operations 16 = .ok (.iload_n 1, 1) := by decide +kernel
theorem dX6_operations_17 : decode cX6_operations 17 = .ok (.bipush (-9), 2) := by decide +kernel
theorem dX6_operations_19 : decode cX6_operations 19 = .ok (.invokevirtual 196, 3) := by decide +kernel
theorem dX6_operations_22 : decode cX6_operations 22 = .ok (.aload_n 0, 1) := by decide +kernel
theorem dX6_operations_23 : decode cX6_operations 23 = .ok (.getfield 16, 3) := by decide +kernel
theorem dX6_operations_26 : decode cX6_operations 26 = .ok (.getfield 99, 3) := by decide +kernel
theorem dX6_operations_29 : decode cX6_operations 29 = .ok (.getfield 138, 3) := by decide +kernel
theorem dX6_operations_32 : decode cX6_operations 32 = .ok (.aload_n 0, 1) := by decide +kernel
theorem dX6_operations_33 : decode cX6_operations 33 = .ok (.getfield 10, 3) := by decide +kernel
theorem dX6_operations_36 : decode cX6_operations 36 = .ok (.getfield 99, 3) := by decide +kernel
theorem dX6_operations_39 : decode cX6_operations 39 = .ok (.getfield 138, 3) := by decide +kernel
theorem dX6_operations_42 : decode cX6_operations 42 = .ok (.isub, 1) := by decide +kernel
theorem dX6_operations_43 : decode cX6_operations 43 = .ok (.ireturn, 1) := by decide +kernel
theorem dX6_after_0 : decode cX6_after 0 = .ok (.iload_n 2, 1) := by decide +kernel
theorem dX6_after_1 : decode cX6_after 1 = .ok (.iconst 0, 1) := by decide +kernel
theorem dX6_after_2 : decode cX6_after 2 = .ok (.bipush 30, 2) := by decide +kernel
theorem dX6_after_4 : decode cX6_after 4 = .ok (.invokestatic 67, 3) := by decide +kernel
theorem dX6_after_7 : decode cX6_after 7 = .ok (.ifCond .eq 12, 3) := by decide +kernel
theorem dX6_after_10 : decode cX6_after 10 = .ok (.iload_n 3, 1) := by decide +kernel
theorem dX6_after_11 : decode cX6_after 11 = .ok (.iconst 0, 1) := by decide +kernel
theorem dX6_after_12 : decode cX6_after 12 = .ok (.iconst 4, 1) := by decide +kernel
theorem dX6_after_13 : decode cX6_after 13 = .ok (.invokestatic 67, 3) := by decide +kernel
theorem dX6_after_16 : decode cX6_after 16 = .ok (.ifCond .ne 5, 3) := by decide +kernel
theorem dX6_after_19 : decode cX6_after 19 = .ok (.iconst (-1), 1) := by decide +kernel
theorem dX6_after_20 : decode cX6_after 20 = .ok (.ireturn, 1) := by decide +kernel
theorem dX6_after_21 : decode cX6_after 21 = .ok (.aload_n 0, 1) := by decide +kernel
theorem dX6_after_22 : decode cX6_after 22 = .ok (.getfield 10, 3) := by decide +kernel
theorem dX6_after_25 : decode cX6_after 25 = .ok (.iload_n 1, 1) := by decide +kernel
theorem dX6_after_26 : decode cX6_after 26 = .ok (.invokevirtual 40, 3) := by decide +kernel
theorem dX6_after_29 : decode cX6_after 29 = .ok (.istore 4, 2) := by decide +kernel
theorem dX6_after_31 : decode cX6_after 31 = .ok (.iload 4, 2) := by decide +kernel
theorem dX6_after_33 : decode cX6_after 33 = .ok (.ifCond .eq 6, 3) := by decide +kernel
theorem dX6_after_36 : decode cX6_after 36 = .ok (.iload 4, 2) := by decide +kernel
theorem dX6_after_38 : decode cX6_after 38 = .ok (.ireturn, 1) := by decide +kernel
theorem dX6_after_39 : decode cX6_after 39 = .ok (.aload_n 0, 1) := by decide +kernel
theorem dX6_after_40 : decode cX6_after 40 = .ok (.iload_n 1, 1) := by decide +kernel
theorem dX6_after_41 : decode cX6_after 41 = .ok (.iload_n 2, 1) := by decide +kernel
theorem dX6_after_42 : decode cX6_after 42 = .ok (.invokevirtual 196, 3) := by decide +kernel
theorem dX6_after_45 : decode cX6_after 45 = .ok (.aload_n 0, 1) := by decide +kernel
theorem dX6_after_46 : decode cX6_after 46 = .ok (.getfield 16, 3) := by decide +kernel
theorem dX6_after_49 : decode cX6_after 49 = .ok (.getfield 51, 3) := by decide +kernel
theorem dX6_after_52 : decode cX6_after 52 = .ok (.ifCond .ne 10, 3) := by decide +kernel
theorem dX6_after_55 : decode cX6_after 55 = .ok (.aload_n 0, 1) := by decide +kernel
theorem dX6_after_56 : decode cX6_after 56 = .ok (.getfield 16, 3) := by decide +kernel
theorem dX6_after_59 : decode cX6_after 59 = .ok (.invokevirtual 114, 3) := by decide +kernel
theorem dX6_after_62 : decode cX6_after 62 = .ok (.iload_n 3, 1) := by decide +kernel
theorem dX6_after_63 : decode cX6_after 63 = .ok (.tableswitch 75 0 3 #[29, 41, 53, 64], 29) := by decide +kernel
theorem dX6_after_92 : decode cX6_after 92 = .ok (.aload_n 0, 1) := by decide +kernel
theorem dX6_after_93 : decode cX6_after 93 = .ok (.getfield 16, 3) := by decide +kernel
theorem dX6_after_96 : decode cX6_after 96 = .ok (.getfield 99, 3) := by decide +kernel
theorem dX6_after_99 : decode cX6_after 99 = .ok (.iconst 1, 1) := by decide +kernel
theorem dX6_after_100 : decode cX6_after 100 = .ok (.invokevirtual 111, 3) := by decide +kernel
theorem dX6_after_103 : decode cX6_after 103 = .ok (.ireturn, 1) := by decide +kernel
theorem dX6_after_104 : decode cX6_after 104 = .ok (.aload_n 0, 1) := by decide +kernel
theorem dX6_after_105 : decode cX6_after 105 = .ok (.getfield 16, 3) := by decide +kernel
theorem dX6_after_108 : decode cX6_after 108 = .ok (.getfield 99, 3) := by decide +kernel
theorem dX6_after_111 : decode cX6_after 111 = .ok (.iconst 2, 1) := by decide +kernel
theorem dX6_after_112 : decode cX6_after 112 = .ok (.invokevirtual 111, 3) := by decide +kernel
theorem dX6_after_115 : decode cX6_after 115 = .ok (.ireturn, 1) := by decide +kernel
theorem dX6_after_116 : decode cX6_after 116 = .ok (.aload_n 0, 1) := by decide +kernel
theorem dX6_after_117 : decode cX6_after 117 = .ok (.getfield 16, 3) := by decide +kernel
theorem dX6_after_120 : decode cX6_after 120 = .ok (.getfield 117, 3) := by decide +kernel
theorem dX6_after_123 : decode cX6_after 123 = .ok (.getfield 121, 3) := by decide +kernel
theorem dX6_after_126 : decode cX6_after 126 = .ok (.ireturn, 1) := by decide +kernel
theorem dX6_after_127 : decode cX6_after 127 = .ok (.aload_n 0, 1) := by decide +kernel
theorem dX6_after_128 : decode cX6_after 128 = .ok (.getfield 16, 3) := by decide +kernel
theorem dX6_after_131 : decode cX6_after 131 = .ok (.getfield 117, 3) := by decide +kernel
theorem dX6_after_134 : decode cX6_after 134 = .ok (.getfield 144, 3) := by decide +kernel
theorem dX6_after_137 : decode cX6_after 137 = .ok (.ireturn, 1) := by decide +kernel
theorem dX6_after_138 : decode cX6_after 138 = .ok (.aload_n 0, 1) := by decide +kernel
theorem dX6_after_139 : decode cX6_after 139 = .ok (.getfield 16, 3) := by decide +kernel
theorem dX6_after_142 : decode cX6_after 142 = .ok (.getfield 117, 3) := by decide +kernel
theorem dX6_after_145 : decode cX6_after 145 = .ok (.getfield 153, 3) := by decide +kernel
theorem dX6_after_148 : decode cX6_after 148 = .ok (.ireturn, 1) := by decide +kernel
theorem dX6_needed_0 : decode cX6_needed 0 = .ok (.aload_n 0, 1) := by decide +kernel
theorem dX6_needed_1 : decode cX6_needed 1 = .ok (.getfield 10, 3) := by decide +kernel
theorem dX6_needed_4 : decode cX6_needed 4 = .ok (.iload_n 1, 1) := by decide +kernel
theorem dX6_needed_5 : decode cX6_needed 5 = .ok (.invokevirtual 40, 3) := by decide +kernel
theorem dX6_needed_8 : decode cX6_needed 8 = .ok (.istore_n 2, 1) := by decide +kernel
theorem dX6_needed_9 : decode cX6_needed 9 = .ok (.iload_n 2, 1) := by decide +kernel
theorem dX6_needed_10 : decode cX6_needed 10 = .ok (.ifCond .eq 5, 3) := by decide +kernel
theorem dX6_needed_13 : decode cX6_needed 13 = .ok (.iload_n 2, 1) := by decide +kernel
theorem dX6_needed_14 : decode cX6_needed 14 = .ok (.ireturn, 1) := by decide +kernel
theorem dX6_needed_15 : decode cX6_needed 15 = .ok (.aload_n 0, 1) := by decide +kernel
theorem dX6_needed_16 : decode cX6_needed 16 = .ok (.getfield 10, 3) := by decide +kernel
theorem dX6_needed_19 : decode cX6_needed 19 = .ok (.getfield 117, 3) := by decide +kernel
theorem dX6_needed_22 : decode cX6_needed 22 = .ok (.getfield 156, 3) := by decide +kernel
theorem dX6_needed_25 : decode cX6_needed 25 = .ok (.iconst 4, 1) := by decide +kernel
theorem dX6_needed_26 : decode cX6_needed 26 = .ok (.if_icmp .ne 8, 3) := by decide +kernel
theorem dX6_needed_29 : decode cX6_needed 29 = .ok (.bipush 11, 2) := by decide +kernel
theorem dX6_needed_31 : decode cX6_needed 31 = .ok (.goto 4, 3) := by decide +kernel
theorem dX6_needed_34 : decode cX6_needed 34 = .ok (.iconst 4, 1) := by decide +kernel
theorem dX6_needed_35 : decode cX6_needed 35 = .ok (.ireturn, 1) := by decide +kernel
theorem dX6_trySale_0 : decode cX6_trySale 0 = .ok (.aload_n 0, 1) := by decide +kernel
theorem dX6_trySale_1 : decode cX6_trySale 1 = .ok (.getfield 16, 3) := by decide +kernel
theorem dX6_trySale_4 : decode cX6_trySale 4 = .ok (.aload_n 0, 1) := by decide +kernel
theorem dX6_trySale_5 : decode cX6_trySale 5 = .ok (.getfield 10, 3) := by decide +kernel
theorem dX6_trySale_8 : decode cX6_trySale 8 = .ok (.invokevirtual 199, 3) := by decide +kernel
theorem dX6_trySale_11 : decode cX6_trySale 11 = .ok (.aload_n 0, 1) := by decide +kernel
theorem dX6_trySale_12 : decode cX6_trySale 12 = .ok (.getfield 16, 3) := by decide +kernel
theorem dX6_trySale_15 : decode cX6_trySale 15 = .ok (.getfield 99, 3) := by decide +kernel
theorem dX6_trySale_18 : decode cX6_trySale 18 = .ok (.iload_n 2, 1) := by decide +kernel
theorem dX6_trySale_19 : decode cX6_trySale 19 = .ok (.putfield 103, 3) := by decide +kernel
theorem dX6_trySale_22 : decode cX6_trySale 22 = .ok (.aload_n 0, 1) := by decide +kernel
theorem dX6_trySale_23 : decode cX6_trySale 23 = .ok (.getfield 16, 3) := by decide +kernel
theorem dX6_trySale_26 : decode cX6_trySale 26 = .ok (.iload_n 1, 1) := by decide +kernel
theorem dX6_trySale_27 : decode cX6_trySale 27 = .ok (.invokevirtual 48, 3) := by decide +kernel
theorem dX6_trySale_30 : decode cX6_trySale 30 = .ok (.pop, 1) := by decide +kernel
theorem dX6_trySale_31 : decode cX6_trySale 31 = .ok (.return_, 1) := by decide +kernel
theorem dX6_keep_0 : decode cX6_keep 0 = .ok (.aload_n 0, 1) := by decide +kernel
theorem dX6_keep_1 : decode cX6_keep 1 = .ok (.iload_n 1, 1) := by decide +kernel
theorem dX6_keep_2 : decode cX6_keep 2 = .ok (.invokevirtual 202, 3) := by decide +kernel
theorem dX6_keep_5 : decode cX6_keep 5 = .ok (.ifCond .ne 5, 3) := by decide +kernel
theorem dX6_keep_8 : decode cX6_keep 8 = .ok (.iconst (-1), 1) := by decide +kernel
theorem dX6_keep_9 : decode cX6_keep 9 = .ok (.ireturn, 1) := by decide +kernel
theorem dX6_keep_10 : decode cX6_keep 10 = .ok (.aload_n 0, 1) := by decide +kernel
theorem dX6_keep_11 : decode cX6_keep 11 = .ok (.getfield 35, 3) := by decide +kernel
theorem dX6_keep_14 : decode cX6_keep 14 = .ok (.iload_n 1, 1) := by decide +kernel
theorem dX6_keep_15 : decode cX6_keep 15 = .ok (.aaload, 1) := by decide +kernel
theorem dX6_keep_16 : decode cX6_keep 16 = .ok (.aload_n 0, 1) := by decide +kernel
theorem dX6_keep_17 : decode cX6_keep 17 = .ok (.getfield 10, 3) := by decide +kernel
theorem dX6_keep_20 : decode cX6_keep 20 = .ok (.invokevirtual 205, 3) := by decide +kernel
theorem dX6_keep_23 : decode cX6_keep 23 = .ok (.aload_n 0, 1) := by decide +kernel
theorem dX6_keep_24 : decode cX6_keep 24 = .ok (.getfield 10, 3) := by decide +kernel
theorem dX6_keep_27 : decode cX6_keep 27 = .ok (.getfield 99, 3) := by decide +kernel
theorem dX6_keep_30 : decode cX6_keep 30 = .ok (.iconst 1, 1) := by decide +kernel
theorem dX6_keep_31 : decode cX6_keep 31 = .ok (.invokevirtual 111, 3) := by decide +kernel
theorem dX6_keep_34 : decode cX6_keep 34 = .ok (.ireturn, 1) := by decide +kernel
theorem dX6_back_0 : decode cX6_back 0 = .ok (.aload_n 0, 1) := by decide +kernel
theorem dX6_back_1 : decode cX6_back 1 = .ok (.iload_n 1, 1) := by decide +kernel
theorem dX6_back_2 : decode cX6_back 2 = .ok (.invokevirtual 202, 3) := by decide +kernel
theorem dX6_back_5 : decode cX6_back 5 = .ok (.ifCond .ne 5, 3) := by decide +kernel
theorem dX6_back_8 : decode cX6_back 8 = .ok (.iconst (-1), 1) := by decide +kernel
theorem dX6_back_9 : decode cX6_back 9 = .ok (.ireturn, 1) := by decide +kernel
theorem dX6_back_10 : decode cX6_back 10 = .ok (.aload_n 0, 1) := by decide +kernel
theorem dX6_back_11 : decode cX6_back 11 = .ok (.getfield 35, 3) := by decide +kernel
theorem dX6_back_14 : decode cX6_back 14 = .ok (.iload_n 1, 1) := by decide +kernel
theorem dX6_back_15 : decode cX6_back 15 = .ok (.aaload, 1) := by decide +kernel
theorem dX6_back_16 : decode cX6_back 16 = .ok (.getfield 208, 3) := by decide +kernel
theorem dX6_back_19 : decode cX6_back 19 = .ok (.ifCond .ne 6, 3) := by decide +kernel
theorem dX6_back_22 : decode cX6_back 22 = .ok (.bipush (-2), 2) := by decide +kernel
theorem dX6_back_24 : decode cX6_back 24 = .ok (.ireturn, 1) := by decide +kernel
theorem dX6_back_25 : decode cX6_back 25 = .ok (.aload_n 0, 1) := by decide +kernel
theorem dX6_back_26 : decode cX6_back 26 = .ok (.getfield 29, 3) := by decide +kernel
theorem dX6_back_29 : decode cX6_back 29 = .ok (.aload_n 0, 1) := by decide +kernel
theorem dX6_back_30 : decode cX6_back 30 = .ok (.getfield 10, 3) := by decide +kernel
theorem dX6_back_33 : decode cX6_back 33 = .ok (.invokevirtual 44, 3) := by decide +kernel
theorem dX6_back_36 : decode cX6_back 36 = .ok (.aload_n 0, 1) := by decide +kernel
theorem dX6_back_37 : decode cX6_back 37 = .ok (.getfield 10, 3) := by decide +kernel
theorem dX6_back_40 : decode cX6_back 40 = .ok (.aload_n 0, 1) := by decide +kernel
theorem dX6_back_41 : decode cX6_back 41 = .ok (.getfield 35, 3) := by decide +kernel
theorem dX6_back_44 : decode cX6_back 44 = .ok (.iload_n 1, 1) := by decide +kernel
theorem dX6_back_45 : decode cX6_back 45 = .ok (.aaload, 1) := by decide +kernel
theorem dX6_back_46 : decode cX6_back 46 = .ok (.getfield 211, 3) := by decide +kernel
theorem dX6_back_49 : decode cX6_back 49 = .ok (.invokevirtual 199, 3) := by decide +kernel
theorem dX6_back_52 : decode cX6_back 52 = .ok (.aload_n 0, 1) := by decide +kernel
theorem dX6_back_53 : decode cX6_back 53 = .ok (.getfield 10, 3) := by decide +kernel
theorem dX6_back_56 : decode cX6_back 56 = .ok (.getfield 99, 3) := by decide +kernel
theorem dX6_back_59 : decode cX6_back 59 = .ok (.iconst 1, 1) := by decide +kernel
theorem dX6_back_60 : decode cX6_back 60 = .ok (.invokevirtual 111, 3) := by decide +kernel
theorem dX6_back_63 : decode cX6_back 63 = .ok (.ireturn, 1) := by decide +kernel
theorem dX6_isImage_0 : decode cX6_isImage 0 = .ok (.iload_n 1, 1) := by decide +kernel
theorem dX6_isImage_1 : decode cX6_isImage 1 = .ok (.ifCond .lt 25, 3) := by decide +kernel
theorem dX6_isImage_4 : decode cX6_isImage 4 = .ok (.iload_n 1, 1) := by decide +kernel
theorem dX6_isImage_5 : decode cX6_isImage 5 = .ok (.aload_n 0, 1) := by decide +kernel
theorem dX6_isImage_6 : decode cX6_isImage 6 = .ok (.getfield 35, 3) := by decide +kernel
theorem dX6_isImage_9 : decode cX6_isImage 9 = .ok (.arraylength, 1) := by decide +kernel
theorem dX6_isImage_10 : decode cX6_isImage 10 = .ok (.if_icmp .ge 16, 3) := by decide +kernel
theorem dX6_isImage_13 : decode cX6_isImage 13 = .ok (.aload_n 0, 1) := by decide +kernel
theorem dX6_isImage_14 : decode cX6_isImage 14 = .ok (.getfield 35, 3) := by decide +kernel
theorem dX6_isImage_17 : decode cX6_isImage 17 = .ok (.iload_n 1, 1) := by decide +kernel
theorem dX6_isImage_18 : decode cX6_isImage 18 = .ok (.aaload, 1) := by decide +kernel
theorem dX6_isImage_19 : decode cX6_isImage 19 = .ok (.ifnull 7, 3) := by decide +kernel
theorem dX6_isImage_22 : decode cX6_isImage 22 = .ok (.iconst 1, 1) := by decide +kernel
theorem dX6_isImage_23 : decode cX6_isImage 23 = .ok (.goto 4, 3) := by decide +kernel
theorem dX6_isImage_26 : decode cX6_isImage 26 = .ok (.iconst 0, 1) := by decide +kernel
theorem dX6_isImage_27 : decode cX6_isImage 27 = .ok (.ireturn, 1) := by decide +kernel
theorem dX6_isWithin_0 : decode cX6_isWithin 0 = .ok (.iload_n 0, 1) := by decide +kernel
theorem dX6_isWithin_1 : decode cX6_isWithin 1 = .ok (.iload_n 1, 1) := by decide +kernel
theorem dX6_isWithin_2 : decode cX6_isWithin 2 = .ok (.if_icmp .lt 12, 3) := by decide +kernel
theorem dX6_isWithin_5 : decode cX6_isWithin 5 = .ok (.iload_n 0, 1) := by decide +kernel
theorem dX6_isWithin_6 : decode cX6_isWithin 6 = .ok (.iload_n 2, 1) := by decide +kernel
theorem dX6_isWithin_7 : decode cX6_isWithin 7 = .ok (.if_icmp .gt 7, 3) := by decide +kernel
theorem dX6_isWithin_10 : decode cX6_isWithin 10 = .ok (.iconst 1, 1) := by decide +kernel
theorem dX6_isWithin_11 : decode cX6_isWithin 11 = .ok (.goto 4, 3) := by decide +kernel
theorem dX6_isWithin_14 : decode cX6_isWithin 14 = .ok (.iconst 0, 1) := by decide +kernel
theorem dX6_isWithin_15 : decode cX6_isWithin 15 = .ok (.ireturn, 1) := by decide +kernel
theorem dX6_isSort_0 : decode cX6_isSort 0 = .ok (.iload_n 0, 1) := by decide +kernel
theorem dX6_isSort_1 : decode cX6_isSort 1 = .ok (.iconst 0, 1) := by decide +kernel
theorem dX6_isSort_2 : decode cX6_isSort 2 = .ok (.iconst 3, 1) := by decide +kernel
theorem dX6_isSort_3 : decode cX6_isSort 3 = .ok (.invokestatic 67, 3) := by decide +kernel
theorem dX6_isSort_6 : decode cX6_isSort 6 = .ok (.ireturn, 1) := by decide +kernel
theorem dX6_isBlock_0 : decode cX6_isBlock 0 = .ok (.iload_n 0, 1) := by decide +kernel
theorem dX6_isBlock_1 : decode cX6_isBlock 1 = .ok (.iconst 0, 1) := by decide +kernel
theorem dX6_isBlock_2 : decode cX6_isBlock 2 = .ok (.iconst 4, 1) := by decide +kernel
theorem dX6_isBlock_3 : decode cX6_isBlock 3 = .ok (.invokestatic 67, 3) := by decide +kernel
theorem dX6_isBlock_6 : decode cX6_isBlock 6 = .ok (.ireturn, 1) := by decide +kernel
theorem dX6_lengthOf_0 : decode cX6_lengthOf 0 = .ok (.bipush 40, 2) := by decide +kernel
theorem dX6_lengthOf_2 : decode cX6_lengthOf 2 = .ok (.bipush 20, 2) := by decide +kernel
theorem dX6_lengthOf_4 : decode cX6_lengthOf 4 = .ok (.iload_n 0, 1) := by decide +kernel
theorem dX6_lengthOf_5 : decode cX6_lengthOf 5 = .ok (.imul, 1) := by decide +kernel
theorem dX6_lengthOf_6 : decode cX6_lengthOf 6 = .ok (.iadd, 1) := by decide +kernel
theorem dX6_lengthOf_7 : decode cX6_lengthOf 7 = .ok (.ireturn, 1) := by decide +kernel
theorem dX6_headerCheck_0 : decode cX6_headerCheck 0 = .ok (.iconst 3, 1) := by decide +kernel
theorem dX6_headerCheck_1 : decode cX6_headerCheck 1 = .ok (.iload_n 0, 1) := by decide +kernel
theorem dX6_headerCheck_2 : decode cX6_headerCheck 2 = .ok (.imul, 1) := by decide +kernel
theorem dX6_headerCheck_3 : decode cX6_headerCheck 3 = .ok (.iconst 5, 1) := by decide +kernel
theorem dX6_headerCheck_4 : decode cX6_headerCheck 4 = .ok (.iload_n 1, 1) := by decide +kernel
theorem dX6_headerCheck_5 : decode cX6_headerCheck 5 = .ok (.imul, 1) := by decide +kernel
theorem dX6_headerCheck_6 : decode cX6_headerCheck 6 = .ok (.iadd, 1) := by decide +kernel
theorem dX6_headerCheck_7 : decode cX6_headerCheck 7 = .ok (.bipush 7, 2) := by decide +kernel
theorem dX6_headerCheck_9 : decode cX6_headerCheck 9 = .ok (.iload_n 2, 1) := by decide +kernel
theorem dX6_headerCheck_10 : decode cX6_headerCheck 10 = .ok (.imul, 1) := by decide +kernel
theorem dX6_headerCheck_11 : decode cX6_headerCheck 11 = .ok (.iadd, 1) := by decide +kernel
theorem dX6_headerCheck_12 : decode cX6_headerCheck 12 = .ok (.bipush 11, 2) := by decide +kernel
theorem dX6_headerCheck_14 : decode cX6_headerCheck 14 = .ok (.iload_n 3, 1) := by decide +kernel
theorem dX6_headerCheck_15 : decode cX6_headerCheck 15 = .ok (.imul, 1) := by decide +kernel
theorem dX6_headerCheck_16 : decode cX6_headerCheck 16 = .ok (.iadd, 1) := by decide +kernel
theorem dX6_headerCheck_17 : decode cX6_headerCheck 17 = .ok (.bipush 13, 2) := by decide +kernel
theorem dX6_headerCheck_19 : decode cX6_headerCheck 19 = .ok (.iload 4, 2) := by decide +kernel
theorem dX6_headerCheck_21 : decode cX6_headerCheck 21 = .ok (.imul, 1) := by decide +kernel
theorem dX6_headerCheck_22 : decode cX6_headerCheck 22 = .ok (.iadd, 1) := by decide +kernel
theorem dX6_headerCheck_23 : decode cX6_headerCheck 23 = .ok (.iconst 1, 1) := by decide +kernel
theorem dX6_headerCheck_24 : decode cX6_headerCheck 24 = .ok (.iadd, 1) := by decide +kernel
theorem dX6_headerCheck_25 : decode cX6_headerCheck 25 = .ok (.ldc 214, 2) := by decide +kernel
theorem dX6_headerCheck_27 : decode cX6_headerCheck 27 = .ok (.irem, 1) := by decide +kernel
theorem dX6_headerCheck_28 : decode cX6_headerCheck 28 = .ok (.ireturn, 1) := by decide +kernel
theorem dX6_recordCheck_0 : decode cX6_recordCheck 0 = .ok (.iconst 3, 1) := by decide +kernel
theorem dX6_recordCheck_1 : decode cX6_recordCheck 1 = .ok (.iload_n 0, 1) := by decide +kernel
theorem dX6_recordCheck_2 : decode cX6_recordCheck 2 = .ok (.imul, 1) := by decide +kernel
theorem dX6_recordCheck_3 : decode cX6_recordCheck 3 = .ok (.iconst 5, 1) := by decide +kernel
theorem dX6_recordCheck_4 : decode cX6_recordCheck 4 = .ok (.iload_n 1, 1) := by decide +kernel
theorem dX6_recordCheck_5 : decode cX6_recordCheck 5 = .ok (.imul, 1) := by decide +kernel
theorem dX6_recordCheck_6 : decode cX6_recordCheck 6 = .ok (.iadd, 1) := by decide +kernel
theorem dX6_recordCheck_7 : decode cX6_recordCheck 7 = .ok (.bipush 7, 2) := by decide +kernel
theorem dX6_recordCheck_9 : decode cX6_recordCheck 9 = .ok (.iload_n 2, 1) := by decide +kernel
theorem dX6_recordCheck_10 : decode cX6_recordCheck 10 = .ok (.imul, 1) := by decide +kernel
theorem dX6_recordCheck_11 : decode cX6_recordCheck 11 = .ok (.iadd, 1) := by decide +kernel
theorem dX6_recordCheck_12 : decode cX6_recordCheck 12 = .ok (.bipush 11, 2) := by decide +kernel
theorem dX6_recordCheck_14 : decode cX6_recordCheck 14 = .ok (.iload_n 3, 1) := by decide +kernel
theorem dX6_recordCheck_15 : decode cX6_recordCheck 15 = .ok (.imul, 1) := by decide +kernel
theorem dX6_recordCheck_16 : decode cX6_recordCheck 16 = .ok (.iadd, 1) := by decide +kernel
theorem dX6_recordCheck_17 : decode cX6_recordCheck 17 = .ok (.iconst 2, 1) := by decide +kernel
theorem dX6_recordCheck_18 : decode cX6_recordCheck 18 = .ok (.iadd, 1) := by decide +kernel
theorem dX6_recordCheck_19 : decode cX6_recordCheck 19 = .ok (.ldc 214, 2) := by decide +kernel
theorem dX6_recordCheck_21 : decode cX6_recordCheck 21 = .ok (.irem, 1) := by decide +kernel
theorem dX6_recordCheck_22 : decode cX6_recordCheck 22 = .ok (.ireturn, 1) := by decide +kernel
end
section
theorem dL_cell_0 : decode cL_cell 0 = .ok (.iload_n 1, 1) := by decide +kernel
theorem dL_cell_1 : decode cL_cell 1 = .ok (.aload_n 0, 1) := by decide +kernel
theorem dL_cell_2 : decode cL_cell 2 = .ok (.arraylength, 1) := by decide +kernel
theorem dL_cell_3 : decode cL_cell 3 = .ok (.if_icmp .ge 9, 3) := by decide +kernel
theorem dL_cell_6 : decode cL_cell 6 = .ok (.aload_n 0, 1) := by decide +kernel
theorem dL_cell_7 : decode cL_cell 7 = .ok (.iload_n 1, 1) := by decide +kernel
theorem dL_cell_8 : decode cL_cell 8 = .ok (.iaload, 1) := by decide +kernel
theorem dL_cell_9 : decode cL_cell 9 = .ok (.goto 9, 3) := by decide +kernel
theorem dL_cell_12 : decode cL_cell 12 = .ok (.ldc 7, 2) := by decide +kernel
theorem dL_cell_14 : decode cL_cell 14 = .ok (.iload_n 1, 1) := by decide +kernel
theorem dL_cell_15 : decode cL_cell 15 = .ok (.iconst 1, 1) := by decide +kernel
theorem dL_cell_16 : decode cL_cell 16 = .ok (.iadd, 1) := by decide +kernel
theorem dL_cell_17 : decode cL_cell 17 = .ok (.imul, 1) := by decide +kernel
theorem dL_cell_18 : decode cL_cell 18 = .ok (.ireturn, 1) := by decide +kernel
theorem dL_low_0 : decode cL_low 0 = .ok (.iload_n 0, 1) := by decide +kernel
theorem dL_low_1 : decode cL_low 1 = .ok (.ldc 8, 2) := by decide +kernel
theorem dL_low_3 : decode cL_low 3 = .ok (.iand, 1) := by decide +kernel
theorem dL_low_4 : decode cL_low 4 = .ok (.iload_n 1, 1) := by decide +kernel
theorem dL_low_5 : decode cL_low 5 = .ok (.irem, 1) := by decide +kernel
theorem dL_low_6 : decode cL_low 6 = .ok (.ireturn, 1) := by decide +kernel
theorem dL_change_0 : decode cL_change 0 = .ok (.iload_n 1, 1) := by decide +kernel
theorem dL_change_1 : decode cL_change 1 = .ok (.bipush 18, 2) := by decide +kernel
theorem dL_change_3 : decode cL_change 3 = .ok (.invokestatic 9, 3) := by decide +kernel
theorem dL_change_6 : decode cL_change 6 = .ok (.tableswitch 372 0 16 #[82, 82, 82, 82, 82, 82, 92, 97, 158, 158, 199, 237, 251, 272, 297, 317, 322], 82) := by decide +kernel
theorem dL_change_88 : decode cL_change 88 = .ok (.aload_n 0, 1) := by decide +kernel
theorem dL_change_89 : decode cL_change 89 = .ok (.iload_n 2, 1) := by decide +kernel
theorem dL_change_90 : decode cL_change 90 = .ok (.iconst 4, 1) := by decide +kernel
theorem dL_change_91 : decode cL_change 91 = .ok (.invokestatic 9, 3) := by decide +kernel
theorem dL_change_94 : decode cL_change 94 = .ok (.invokevirtual 15, 3) := by decide +kernel
theorem dL_change_97 : decode cL_change 97 = .ok (.ireturn, 1) := by decide +kernel
theorem dL_change_98 : decode cL_change 98 = .ok (.aload_n 0, 1) := by decide +kernel
theorem dL_change_99 : decode cL_change 99 = .ok (.invokevirtual 21, 3) := by decide +kernel
theorem dL_change_102 : decode cL_change 102 = .ok (.ireturn, 1) := by decide +kernel
theorem dL_change_103 : decode cL_change 103 = .ok (.iload_n 2, 1) := by decide +kernel
theorem dL_change_104 : decode cL_change 104 = .ok (.iconst 2, 1) := by decide +kernel
theorem dL_change_105 : decode cL_change 105 = .ok (.invokestatic 9, 3) := by decide +kernel
theorem dL_change_108 : decode cL_change 108 = .ok (.ifCond .ne 10, 3) := by decide +kernel
theorem dL_change_111 : decode cL_change 111 = .ok (.aload_n 0, 1) := by decide +kernel
theorem dL_change_112 : decode cL_change 112 = .ok (.invokevirtual 25, 3) := by decide +kernel
theorem dL_change_115 : decode cL_change 115 = .ok (.goto 48, 3) := by decide +kernel
theorem dL_change_118 : decode cL_change 118 = .ok (.aload_n 0, 1) := by decide +kernel
theorem dL_change_119 : decode cL_change 119 = .ok (.iload_n 2, 1) := by decide +kernel
theorem dL_change_120 : decode cL_change 120 = .ok (.iconst 1, 1) := by decide +kernel
theorem dL_change_121 : decode cL_change 121 = .ok (.ishr, 1) := by decide +kernel
theorem dL_change_122 : decode cL_change 122 = .ok (.sipush 2000, 3) := by decide +kernel
theorem dL_change_125 : decode cL_change 125 = .ok (.invokestatic 9, 3) := by decide +kernel
theorem dL_change_128 : decode cL_change 128 = .ok (.iload_n 2, 1) := by decide +kernel
theorem dL_change_129 : decode cL_change 129 = .ok (.bipush 12, 2) := by decide +kernel
theorem dL_change_131 : decode cL_change 131 = .ok (.ishr, 1) := by decide +kernel
theorem dL_change_132 : decode cL_change 132 = .ok (.iconst 3, 1) := by decide +kernel
theorem dL_change_133 : decode cL_change 133 = .ok (.invokestatic 9, 3) := by decide +kernel
theorem dL_change_136 : decode cL_change 136 = .ok (.ifCond .ne 15, 3) := by decide +kernel
theorem dL_change_139 : decode cL_change 139 = .ok (.iload_n 2, 1) := by decide +kernel
theorem dL_change_140 : decode cL_change 140 = .ok (.bipush 14, 2) := by decide +kernel
theorem dL_change_142 : decode cL_change 142 = .ok (.ishr, 1) := by decide +kernel
theorem dL_change_143 : decode cL_change 143 = .ok (.bipush 100, 2) := by decide +kernel
theorem dL_change_145 : decode cL_change 145 = .ok (.invokestatic 9, 3) := by decide +kernel
theorem dL_change_148 : decode cL_change 148 = .ok (.goto 12, 3) := by decide +kernel
theorem dL_change_151 : decode cL_change 151 = .ok (.iload_n 2, 1) := by decide +kernel
theorem dL_change_152 : decode cL_change 152 = .ok (.iconst 1, 1) := by decide +kernel
theorem dL_change_153 : decode cL_change 153 = .ok (.ishr, 1) := by decide +kernel
theorem dL_change_154 : decode cL_change 154 = .ok (.sipush 2000, 3) := by decide +kernel
theorem dL_change_157 : decode cL_change 157 = .ok (.invokestatic 9, 3) := by decide +kernel
theorem dL_change_160 : decode cL_change 160 = .ok (.invokevirtual 28, 3) := by decide +kernel
theorem dL_change_163 : decode cL_change 163 = .ok (.ireturn, 1) := by decide +kernel
theorem dL_change_164 : decode cL_change 164 = .ok (.aload_n 0, 1) := by decide +kernel
theorem dL_change_165 : decode cL_change 165 = .ok (.bipush 100, 2) := by decide +kernel
theorem dL_change_167 : decode cL_change 167 = .ok (.iload_n 2, 1) := by decide +kernel
theorem dL_change_168 : decode cL_change 168 = .ok (.sipush 4000, 3) := by decide +kernel
theorem dL_change_171 : decode cL_change 171 = .ok (.invokestatic 9, 3) := by decide +kernel
theorem dL_change_174 : decode cL_change 174 = .ok (.iadd, 1) := by decide +kernel
theorem dL_change_175 : decode cL_change 175 = .ok (.bipush 100, 2) := by decide +kernel
theorem dL_change_177 : decode cL_change 177 = .ok (.iload_n 2, 1) := by decide +kernel
theorem dL_change_178 : decode cL_change 178 = .ok (.iload_n 2, 1) := by decide +kernel
theorem dL_change_179 : decode cL_change 179 = .ok (.bipush 12, 2) := by decide +kernel
theorem dL_change_181 : decode cL_change 181 = .ok (.ishr, 1) := by decide +kernel
theorem dL_change_182 : decode cL_change 182 = .ok (.iconst 3, 1) := by decide +kernel
theorem dL_change_183 : decode cL_change 183 = .ok (.invokestatic 9, 3) := by decide +kernel
theorem dL_change_186 : decode cL_change 186 = .ok (.ifCond .ne 8, 3) := by decide +kernel
theorem dL_change_189 : decode cL_change 189 = .ok (.bipush 100, 2) := by decide +kernel
theorem dL_change_191 : decode cL_change 191 = .ok (.goto 6, 3) := by decide +kernel
theorem dL_change_194 : decode cL_change 194 = .ok (.sipush 4000, 3) := by decide +kernel
theorem dL_change_197 : decode cL_change 197 = .ok (.invokestatic 9, 3) := by decide +kernel
theorem dL_change_200 : decode cL_change 200 = .ok (.iadd, 1) := by decide +kernel
theorem dL_change_201 : decode cL_change 201 = .ok (.invokevirtual 28, 3) := by decide +kernel
theorem dL_change_204 : decode cL_change 204 = .ok (.ireturn, 1) := by decide +kernel
theorem dL_change_205 : decode cL_change 205 = .ok (.aload_n 0, 1) := by decide +kernel
theorem dL_change_206 : decode cL_change 206 = .ok (.iload_n 2, 1) := by decide +kernel
theorem dL_change_207 : decode cL_change 207 = .ok (.iconst 2, 1) := by decide +kernel
theorem dL_change_208 : decode cL_change 208 = .ok (.invokestatic 9, 3) := by decide +kernel
theorem dL_change_211 : decode cL_change 211 = .ok (.ifCond .ne 20, 3) := by decide +kernel
theorem dL_change_214 : decode cL_change 214 = .ok (.aload_n 0, 1) := by decide +kernel
theorem dL_change_215 : decode cL_change 215 = .ok (.iconst 1, 1) := by decide +kernel
theorem dL_change_216 : decode cL_change 216 = .ok (.invokevirtual 31, 3) := by decide +kernel
theorem dL_change_219 : decode cL_change 219 = .ok (.iload_n 2, 1) := by decide +kernel
theorem dL_change_220 : decode cL_change 220 = .ok (.iconst 1, 1) := by decide +kernel
theorem dL_change_221 : decode cL_change 221 = .ok (.ishr, 1) := by decide +kernel
theorem dL_change_222 : decode cL_change 222 = .ok (.bipush 12, 2) := by decide +kernel
theorem dL_change_224 : decode cL_change 224 = .ok (.invokestatic 9, 3) := by decide +kernel
theorem dL_change_227 : decode cL_change 227 = .ok (.iadd, 1) := by decide +kernel
theorem dL_change_228 : decode cL_change 228 = .ok (.goto 11, 3) := by decide +kernel
theorem dL_change_231 : decode cL_change 231 = .ok (.iload_n 2, 1) := by decide +kernel
theorem dL_change_232 : decode cL_change 232 = .ok (.iconst 1, 1) := by decide +kernel
theorem dL_change_233 : decode cL_change 233 = .ok (.ishr, 1) := by decide +kernel
theorem dL_change_234 : decode cL_change 234 = .ok (.ldc 34, 2) := by decide +kernel
theorem dL_change_236 : decode cL_change 236 = .ok (.invokestatic 9, 3) := by decide +kernel
theorem dL_change_239 : decode cL_change 239 = .ok (.invokevirtual 35, 3) := by decide +kernel
theorem dL_change_242 : decode cL_change 242 = .ok (.ireturn, 1) := by decide +kernel
theorem dL_change_243 : decode cL_change 243 = .ok (.aload_n 0, 1) := by decide +kernel
theorem dL_change_244 : decode cL_change 244 = .ok (.iconst 1, 1) := by decide +kernel
theorem dL_change_245 : decode cL_change 245 = .ok (.iload_n 2, 1) := by decide +kernel
theorem dL_change_246 : decode cL_change 246 = .ok (.sipush 600, 3) := by decide +kernel
theorem dL_change_249 : decode cL_change 249 = .ok (.invokestatic 9, 3) := by decide +kernel
theorem dL_change_252 : decode cL_change 252 = .ok (.iadd, 1) := by decide +kernel
theorem dL_change_253 : decode cL_change 253 = .ok (.invokevirtual 38, 3) := by decide +kernel
theorem dL_change_256 : decode cL_change 256 = .ok (.ireturn, 1) := by decide +kernel
theorem dL_change_257 : decode cL_change 257 = .ok (.aload_n 0, 1) := by decide +kernel
theorem dL_change_258 : decode cL_change 258 = .ok (.iload_n 2, 1) := by decide +kernel
theorem dL_change_259 : decode cL_change 259 = .ok (.iconst 4, 1) := by decide +kernel
theorem dL_change_260 : decode cL_change 260 = .ok (.invokestatic 9, 3) := by decide +kernel
theorem dL_change_263 : decode cL_change 263 = .ok (.iconst 1, 1) := by decide +kernel
theorem dL_change_264 : decode cL_change 264 = .ok (.iload_n 2, 1) := by decide +kernel
theorem dL_change_265 : decode cL_change 265 = .ok (.iconst 2, 1) := by decide +kernel
theorem dL_change_266 : decode cL_change 266 = .ok (.ishr, 1) := by decide +kernel
theorem dL_change_267 : decode cL_change 267 = .ok (.sipush 999, 3) := by decide +kernel
theorem dL_change_270 : decode cL_change 270 = .ok (.invokestatic 9, 3) := by decide +kernel
theorem dL_change_273 : decode cL_change 273 = .ok (.iadd, 1) := by decide +kernel
theorem dL_change_274 : decode cL_change 274 = .ok (.invokevirtual 41, 3) := by decide +kernel
theorem dL_change_277 : decode cL_change 277 = .ok (.ireturn, 1) := by decide +kernel
theorem dL_change_278 : decode cL_change 278 = .ok (.aload_n 0, 1) := by decide +kernel
theorem dL_change_279 : decode cL_change 279 = .ok (.iload_n 2, 1) := by decide +kernel
theorem dL_change_280 : decode cL_change 280 = .ok (.iconst 3, 1) := by decide +kernel
theorem dL_change_281 : decode cL_change 281 = .ok (.invokestatic 9, 3) := by decide +kernel
theorem dL_change_284 : decode cL_change 284 = .ok (.ifCond .ne 7, 3) := by decide +kernel
theorem dL_change_287 : decode cL_change 287 = .ok (.iconst (-1), 1) := by decide +kernel
theorem dL_change_288 : decode cL_change 288 = .ok (.goto 11, 3) := by decide +kernel
theorem dL_change_291 : decode cL_change 291 = .ok (.iload_n 2, 1) := by decide +kernel
theorem dL_change_292 : decode cL_change 292 = .ok (.iconst 2, 1) := by decide +kernel
theorem dL_change_293 : decode cL_change 293 = .ok (.ishr, 1) := by decide +kernel
theorem dL_change_294 : decode cL_change 294 = .ok (.bipush 25, 2) := by decide +kernel
theorem dL_change_296 : decode cL_change 296 = .ok (.invokestatic 9, 3) := by decide +kernel
theorem dL_change_299 : decode cL_change 299 = .ok (.invokevirtual 44, 3) := by decide +kernel
theorem dL_change_302 : decode cL_change 302 = .ok (.ireturn, 1) := by decide +kernel
theorem dL_change_303 : decode cL_change 303 = .ok (.iload_n 2, 1) := by decide +kernel
theorem dL_change_304 : decode cL_change 304 = .ok (.iconst 2, 1) := by decide +kernel
theorem dL_change_305 : decode cL_change 305 = .ok (.invokestatic 9, 3) := by decide +kernel
theorem dL_change_308 : decode cL_change 308 = .ok (.ifCond .ne 10, 3) := by decide +kernel
theorem dL_change_311 : decode cL_change 311 = .ok (.aload_n 0, 1) := by decide +kernel
theorem dL_change_312 : decode cL_change 312 = .ok (.invokevirtual 47, 3) := by decide +kernel
theorem dL_change_315 : decode cL_change 315 = .ok (.goto 7, 3) := by decide +kernel
theorem dL_change_318 : decode cL_change 318 = .ok (.aload_n 0, 1) := by decide +kernel
theorem dL_change_319 : decode cL_change 319 = .ok (.invokevirtual 50, 3) := by decide +kernel
theorem dL_change_322 : decode cL_change 322 = .ok (.ireturn, 1) := by decide +kernel
theorem dL_change_323 : decode cL_change 323 = .ok (.aload_n 0, 1) := by decide +kernel
theorem dL_change_324 : decode cL_change 324 = .ok (.invokevirtual 53, 3) := by decide +kernel
theorem dL_change_327 : decode cL_change 327 = .ok (.ireturn, 1) := by decide +kernel
theorem dL_change_328 : decode cL_change 328 = .ok (.iload_n 2, 1) := by decide +kernel
theorem dL_change_329 : decode cL_change 329 = .ok (.iconst 3, 1) := by decide +kernel
theorem dL_change_330 : decode cL_change 330 = .ok (.invokestatic 9, 3) := by decide +kernel
theorem dL_change_333 : decode cL_change 333 = .ok (.ifCond .ne 17, 3) := by decide +kernel
theorem dL_change_336 : decode cL_change 336 = .ok (.aload_n 0, 1) := by decide +kernel
theorem dL_change_337 : decode cL_change 337 = .ok (.iload_n 2, 1) := by decide +kernel
theorem dL_change_338 : decode cL_change 338 = .ok (.iconst 2, 1) := by decide +kernel
theorem dL_change_339 : decode cL_change 339 = .ok (.ishr, 1) := by decide +kernel
theorem dL_change_340 : decode cL_change 340 = .ok (.iconst 2, 1) := by decide +kernel
theorem dL_change_341 : decode cL_change 341 = .ok (.invokestatic 9, 3) := by decide +kernel
theorem dL_change_344 : decode cL_change 344 = .ok (.invokevirtual 56, 3) := by decide +kernel
theorem dL_change_347 : decode cL_change 347 = .ok (.goto 30, 3) := by decide +kernel
theorem dL_change_350 : decode cL_change 350 = .ok (.iload_n 2, 1) := by decide +kernel
theorem dL_change_351 : decode cL_change 351 = .ok (.iconst 3, 1) := by decide +kernel
theorem dL_change_352 : decode cL_change 352 = .ok (.invokestatic 9, 3) := by decide +kernel
theorem dL_change_355 : decode cL_change 355 = .ok (.iconst 1, 1) := by decide +kernel
theorem dL_change_356 : decode cL_change 356 = .ok (.if_icmp .ne 17, 3) := by decide +kernel
theorem dL_change_359 : decode cL_change 359 = .ok (.aload_n 0, 1) := by decide +kernel
theorem dL_change_360 : decode cL_change 360 = .ok (.iload_n 2, 1) := by decide +kernel
theorem dL_change_361 : decode cL_change 361 = .ok (.iconst 2, 1) := by decide +kernel
theorem dL_change_362 : decode cL_change 362 = .ok (.ishr, 1) := by decide +kernel
theorem dL_change_363 : decode cL_change 363 = .ok (.iconst 2, 1) := by decide +kernel
theorem dL_change_364 : decode cL_change 364 = .ok (.invokestatic 9, 3) := by decide +kernel
theorem dL_change_367 : decode cL_change 367 = .ok (.invokevirtual 59, 3) := by decide +kernel
theorem dL_change_370 : decode cL_change 370 = .ok (.goto 7, 3) := by decide +kernel
theorem dL_change_373 : decode cL_change 373 = .ok (.aload_n 0, 1) := by decide +kernel
theorem dL_change_374 : decode cL_change 374 = .ok (.invokevirtual 50, 3) := by decide +kernel
theorem dL_change_377 : decode cL_change 377 = .ok (.ireturn, 1) := by decide +kernel
theorem dL_change_378 : decode cL_change 378 = .ok (.aload_n 0, 1) := by decide +kernel
theorem dL_change_379 : decode cL_change 379 = .ok (.invokevirtual 50, 3) := by decide +kernel
theorem dL_change_382 : decode cL_change 382 = .ok (.ireturn, 1) := by decide +kernel
theorem dL_isJournal_0 : decode cL_isJournal 0 = .ok (.aload_n 0, 1) := by decide +kernel
theorem dL_isJournal_1 : decode cL_isJournal 1 = .ok (.iconst (-1), 1) := by decide +kernel
theorem dL_isJournal_2 : decode cL_isJournal 2 = .ok (.invokevirtual 62, 3) := by decide +kernel
theorem dL_isJournal_5 : decode cL_isJournal 5 = .ok (.istore_n 1, 1) := by decide +kernel
theorem dL_isJournal_6 : decode cL_isJournal 6 = .ok (.iconst 0, 1) := by decide +kernel
theorem dL_isJournal_7 : decode cL_isJournal 7 = .ok (.istore_n 2, 1) := by decide +kernel
theorem dL_isJournal_8 : decode cL_isJournal 8 = .ok (.iconst 0, 1) := by decide +kernel
theorem dL_isJournal_9 : decode cL_isJournal 9 = .ok (.istore_n 3, 1) := by decide +kernel
theorem dL_isJournal_10 : decode cL_isJournal 10 = .ok (.iconst 0, 1) := by decide +kernel
theorem dL_isJournal_11 : decode cL_isJournal 11 = .ok (.istore 4, 2) := by decide +kernel
theorem dL_isJournal_13 : decode cL_isJournal 13 = .ok (.iconst 0, 1) := by decide +kernel
theorem dL_isJournal_14 : decode cL_isJournal 14 = .ok (.istore 5, 2) := by decide +kernel
theorem dL_isJournal_16 : decode cL_isJournal 16 = .ok (.iconst 0, 1) := by decide +kernel
theorem dL_isJournal_17 : decode cL_isJournal 17 = .ok (.istore 6, 2) := by decide +kernel
theorem dL_isJournal_19 : decode cL_isJournal 19 = .ok (.iload 6, 2) := by decide +kernel
theorem dL_isJournal_21 : decode cL_isJournal 21 = .ok (.iconst 5, 1) := by decide +kernel
theorem dL_isJournal_22 : decode cL_isJournal 22 = .ok (.if_icmp .ge 18, 3) := by decide +kernel
theorem dL_isJournal_25 : decode cL_isJournal 25 = .ok (.iload_n 2, 1) := by decide +kernel
theorem dL_isJournal_26 : decode cL_isJournal 26 = .ok (.aload_n 0, 1) := by decide +kernel
theorem dL_isJournal_27 : decode cL_isJournal 27 = .ok (.iload 6, 2) := by decide +kernel
theorem dL_isJournal_29 : decode cL_isJournal 29 = .ok (.invokevirtual 62, 3) := by decide +kernel
theorem dL_isJournal_32 : decode cL_isJournal 32 = .ok (.iadd, 1) := by decide +kernel
theorem dL_isJournal_33 : decode cL_isJournal 33 = .ok (.istore_n 2, 1) := by decide +kernel
theorem dL_isJournal_34 : decode cL_isJournal 34 = .ok (.iinc 6 1, 3) := by decide +kernel
theorem dL_isJournal_37 : decode cL_isJournal 37 = .ok (.goto (-18), 3) := by decide +kernel
theorem dL_isJournal_40 : decode cL_isJournal 40 = .ok (.iconst 0, 1) := by decide +kernel
theorem dL_isJournal_41 : decode cL_isJournal 41 = .ok (.istore 6, 2) := by decide +kernel
theorem dL_isJournal_43 : decode cL_isJournal 43 = .ok (.iload 6, 2) := by decide +kernel
theorem dL_isJournal_45 : decode cL_isJournal 45 = .ok (.iconst 5, 1) := by decide +kernel
theorem dL_isJournal_46 : decode cL_isJournal 46 = .ok (.if_icmp .ge 182, 3) := by decide +kernel
theorem dL_isJournal_49 : decode cL_isJournal 49 = .ok (.iload_n 3, 1) := by decide +kernel
theorem dL_isJournal_50 : decode cL_isJournal 50 = .ok (.aload_n 0, 1) := by decide +kernel
theorem dL_isJournal_51 : decode cL_isJournal 51 = .ok (.iload 6, 2) := by decide +kernel
theorem dL_isJournal_53 : decode cL_isJournal 53 = .ok (.iconst 2, 1) := by decide +kernel
theorem dL_isJournal_54 : decode cL_isJournal 54 = .ok (.invokevirtual 65, 3) := by decide +kernel
theorem dL_isJournal_57 : decode cL_isJournal 57 = .ok (.iadd, 1) := by decide +kernel
theorem dL_isJournal_58 : decode cL_isJournal 58 = .ok (.istore_n 3, 1) := by decide +kernel
theorem dL_isJournal_59 : decode cL_isJournal 59 = .ok (.iload 4, 2) := by decide +kernel
theorem dL_isJournal_61 : decode cL_isJournal 61 = .ok (.aload_n 0, 1) := by decide +kernel
theorem dL_isJournal_62 : decode cL_isJournal 62 = .ok (.iload 6, 2) := by decide +kernel
theorem dL_isJournal_64 : decode cL_isJournal 64 = .ok (.iconst 3, 1) := by decide +kernel
theorem dL_isJournal_65 : decode cL_isJournal 65 = .ok (.invokevirtual 65, 3) := by decide +kernel
theorem dL_isJournal_68 : decode cL_isJournal 68 = .ok (.iadd, 1) := by decide +kernel
theorem dL_isJournal_69 : decode cL_isJournal 69 = .ok (.istore 4, 2) := by decide +kernel
theorem dL_isJournal_71 : decode cL_isJournal 71 = .ok (.iload 5, 2) := by decide +kernel
theorem dL_isJournal_73 : decode cL_isJournal 73 = .ok (.aload_n 0, 1) := by decide +kernel
theorem dL_isJournal_74 : decode cL_isJournal 74 = .ok (.iload 6, 2) := by decide +kernel
theorem dL_isJournal_76 : decode cL_isJournal 76 = .ok (.iconst 0, 1) := by decide +kernel
theorem dL_isJournal_77 : decode cL_isJournal 77 = .ok (.invokevirtual 65, 3) := by decide +kernel
theorem dL_isJournal_80 : decode cL_isJournal 80 = .ok (.iadd, 1) := by decide +kernel
theorem dL_isJournal_81 : decode cL_isJournal 81 = .ok (.istore 5, 2) := by decide +kernel
theorem dL_isJournal_83 : decode cL_isJournal 83 = .ok (.iconst 0, 1) := by decide +kernel
theorem dL_isJournal_84 : decode cL_isJournal 84 = .ok (.istore 7, 2) := by decide +kernel
theorem dL_isJournal_86 : decode cL_isJournal 86 = .ok (.iload 7, 2) := by decide +kernel
theorem dL_isJournal_88 : decode cL_isJournal 88 = .ok (.bipush 22, 2) := by decide +kernel
theorem dL_isJournal_90 : decode cL_isJournal 90 = .ok (.if_icmp .ge 35, 3) := by decide +kernel
theorem dL_isJournal_93 : decode cL_isJournal 93 = .ok (.aload_n 0, 1) := by decide +kernel
theorem dL_isJournal_94 : decode cL_isJournal 94 = .ok (.iload 6, 2) := by decide +kernel
theorem dL_isJournal_96 : decode cL_isJournal 96 = .ok (.iload 7, 2) := by decide +kernel
theorem dL_isJournal_98 : decode cL_isJournal 98 = .ok (.invokevirtual 68, 3) := by decide +kernel
theorem dL_isJournal_101 : decode cL_isJournal 101 = .ok (.ifCond .lt 16, 3) := by decide +kernel
theorem dL_isJournal_104 : decode cL_isJournal 104 = .ok (.aload_n 0, 1) := by decide +kernel
theorem dL_isJournal_105 : decode cL_isJournal 105 = .ok (.iload 6, 2) := by decide +kernel
theorem dL_isJournal_107 : decode cL_isJournal 107 = .ok (.iload 7, 2) := by decide +kernel
theorem dL_isJournal_109 : decode cL_isJournal 109 = .ok (.invokevirtual 68, 3) := by decide +kernel
theorem dL_isJournal_112 : decode cL_isJournal 112 = .ok (.ldc 71, 2) := by decide +kernel
theorem dL_isJournal_114 : decode cL_isJournal 114 = .ok (.if_icmp .le 5, 3) := by decide +kernel
theorem dL_isJournal_117 : decode cL_isJournal 117 = .ok (.iconst 0, 1) := by decide +kernel
theorem dL_isJournal_118 : decode cL_isJournal 118 = .ok (.ireturn, 1) := by decide +kernel
theorem dL_isJournal_119 : decode cL_isJournal 119 = .ok (.iinc 7 1, 3) := by decide +kernel
theorem dL_isJournal_122 : decode cL_isJournal 122 = .ok (.goto (-36), 3) := by decide +kernel
theorem dL_isJournal_125 : decode cL_isJournal 125 = .ok (.aload_n 0, 1) := by decide +kernel
theorem dL_isJournal_126 : decode cL_isJournal 126 = .ok (.iload 6, 2) := by decide +kernel
theorem dL_isJournal_128 : decode cL_isJournal 128 = .ok (.iconst 0, 1) := by decide +kernel
theorem dL_isJournal_129 : decode cL_isJournal 129 = .ok (.invokevirtual 65, 3) := by decide +kernel
theorem dL_isJournal_132 : decode cL_isJournal 132 = .ok (.iconst 1, 1) := by decide +kernel
theorem dL_isJournal_133 : decode cL_isJournal 133 = .ok (.if_icmp .ne 89, 3) := by decide +kernel
theorem dL_isJournal_136 : decode cL_isJournal 136 = .ok (.aload_n 0, 1) := by decide +kernel
theorem dL_isJournal_137 : decode cL_isJournal 137 = .ok (.iload 6, 2) := by decide +kernel
theorem dL_isJournal_139 : decode cL_isJournal 139 = .ok (.iconst 1, 1) := by decide +kernel
theorem dL_isJournal_140 : decode cL_isJournal 140 = .ok (.invokevirtual 65, 3) := by decide +kernel
theorem dL_isJournal_143 : decode cL_isJournal 143 = .ok (.aload_n 0, 1) := by decide +kernel
theorem dL_isJournal_144 : decode cL_isJournal 144 = .ok (.iload 6, 2) := by decide +kernel
theorem dL_isJournal_146 : decode cL_isJournal 146 = .ok (.iconst 0, 1) := by decide +kernel
theorem dL_isJournal_147 : decode cL_isJournal 147 = .ok (.invokevirtual 68, 3) := by decide +kernel
theorem dL_isJournal_150 : decode cL_isJournal 150 = .ok (.if_icmp .ne 70, 3) := by decide +kernel
theorem dL_isJournal_153 : decode cL_isJournal 153 = .ok (.aload_n 0, 1) := by decide +kernel
theorem dL_isJournal_154 : decode cL_isJournal 154 = .ok (.iload 6, 2) := by decide +kernel
theorem dL_isJournal_156 : decode cL_isJournal 156 = .ok (.iconst 5, 1) := by decide +kernel
theorem dL_isJournal_157 : decode cL_isJournal 157 = .ok (.invokevirtual 68, 3) := by decide +kernel
theorem dL_isJournal_160 : decode cL_isJournal 160 = .ok (.iconst 3, 1) := by decide +kernel
theorem dL_isJournal_161 : decode cL_isJournal 161 = .ok (.aload_n 0, 1) := by decide +kernel
theorem dL_isJournal_162 : decode cL_isJournal 162 = .ok (.iload 6, 2) := by decide +kernel
theorem dL_isJournal_164 : decode cL_isJournal 164 = .ok (.iconst 0, 1) := by decide +kernel
theorem dL_isJournal_165 : decode cL_isJournal 165 = .ok (.invokevirtual 68, 3) := by decide +kernel
theorem dL_isJournal_168 : decode cL_isJournal 168 = .ok (.imul, 1) := by decide +kernel
theorem dL_isJournal_169 : decode cL_isJournal 169 = .ok (.iconst 5, 1) := by decide +kernel
theorem dL_isJournal_170 : decode cL_isJournal 170 = .ok (.aload_n 0, 1) := by decide +kernel
theorem dL_isJournal_171 : decode cL_isJournal 171 = .ok (.iload 6, 2) := by decide +kernel
theorem dL_isJournal_173 : decode cL_isJournal 173 = .ok (.iconst 1, 1) := by decide +kernel
theorem dL_isJournal_174 : decode cL_isJournal 174 = .ok (.invokevirtual 68, 3) := by decide +kernel
theorem dL_isJournal_177 : decode cL_isJournal 177 = .ok (.imul, 1) := by decide +kernel
theorem dL_isJournal_178 : decode cL_isJournal 178 = .ok (.iadd, 1) := by decide +kernel
theorem dL_isJournal_179 : decode cL_isJournal 179 = .ok (.bipush 7, 2) := by decide +kernel
theorem dL_isJournal_181 : decode cL_isJournal 181 = .ok (.aload_n 0, 1) := by decide +kernel
theorem dL_isJournal_182 : decode cL_isJournal 182 = .ok (.iload 6, 2) := by decide +kernel
theorem dL_isJournal_184 : decode cL_isJournal 184 = .ok (.iconst 2, 1) := by decide +kernel
theorem dL_isJournal_185 : decode cL_isJournal 185 = .ok (.invokevirtual 68, 3) := by decide +kernel
theorem dL_isJournal_188 : decode cL_isJournal 188 = .ok (.imul, 1) := by decide +kernel
theorem dL_isJournal_189 : decode cL_isJournal 189 = .ok (.iadd, 1) := by decide +kernel
theorem dL_isJournal_190 : decode cL_isJournal 190 = .ok (.bipush 11, 2) := by decide +kernel
theorem dL_isJournal_192 : decode cL_isJournal 192 = .ok (.aload_n 0, 1) := by decide +kernel
theorem dL_isJournal_193 : decode cL_isJournal 193 = .ok (.iload 6, 2) := by decide +kernel
theorem dL_isJournal_195 : decode cL_isJournal 195 = .ok (.iconst 3, 1) := by decide +kernel
theorem dL_isJournal_196 : decode cL_isJournal 196 = .ok (.invokevirtual 68, 3) := by decide +kernel
theorem dL_isJournal_199 : decode cL_isJournal 199 = .ok (.imul, 1) := by decide +kernel
theorem dL_isJournal_200 : decode cL_isJournal 200 = .ok (.iadd, 1) := by decide +kernel
theorem dL_isJournal_201 : decode cL_isJournal 201 = .ok (.bipush 13, 2) := by decide +kernel
theorem dL_isJournal_203 : decode cL_isJournal 203 = .ok (.aload_n 0, 1) := by decide +kernel
theorem dL_isJournal_204 : decode cL_isJournal 204 = .ok (.iload 6, 2) := by decide +kernel
theorem dL_isJournal_206 : decode cL_isJournal 206 = .ok (.iconst 4, 1) := by decide +kernel
theorem dL_isJournal_207 : decode cL_isJournal 207 = .ok (.invokevirtual 68, 3) := by decide +kernel
theorem dL_isJournal_210 : decode cL_isJournal 210 = .ok (.imul, 1) := by decide +kernel
theorem dL_isJournal_211 : decode cL_isJournal 211 = .ok (.iadd, 1) := by decide +kernel
theorem dL_isJournal_212 : decode cL_isJournal 212 = .ok (.iconst 1, 1) := by decide +kernel
theorem dL_isJournal_213 : decode cL_isJournal 213 = .ok (.iadd, 1) := by decide +kernel
theorem dL_isJournal_214 : decode cL_isJournal 214 = .ok (.ldc 72, 2) := by decide +kernel
theorem dL_isJournal_216 : decode cL_isJournal 216 = .ok (.irem, 1) := by decide +kernel
theorem dL_isJournal_217 : decode cL_isJournal 217 = .ok (.if_icmp .eq 5, 3) := by decide +kernel
theorem dL_isJournal_220 : decode cL_isJournal 220 = .ok (.iconst 0, 1) := by decide +kernel
theorem dL_isJournal_221 : decode cL_isJournal 221 = .ok (.ireturn, 1) := by decide +kernel
theorem dL_isJournal_222 : decode cL_isJournal 222 = .ok (.iinc 6 1, 3) := by decide +kernel
theorem dL_isJournal_225 : decode cL_isJournal 225 = .ok (.goto (-182), 3) := by decide +kernel
theorem dL_isJournal_228 : decode cL_isJournal 228 = .ok (.iconst 0, 1) := by decide +kernel
theorem dL_isJournal_229 : decode cL_isJournal 229 = .ok (.istore 6, 2) := by decide +kernel
theorem dL_isJournal_231 : decode cL_isJournal 231 = .ok (.iconst 0, 1) := by decide +kernel
theorem dL_isJournal_232 : decode cL_isJournal 232 = .ok (.istore 7, 2) := by decide +kernel
theorem dL_isJournal_234 : decode cL_isJournal 234 = .ok (.iload 7, 2) := by decide +kernel
theorem dL_isJournal_236 : decode cL_isJournal 236 = .ok (.iconst 4, 1) := by decide +kernel
theorem dL_isJournal_237 : decode cL_isJournal 237 = .ok (.if_icmp .ge 20, 3) := by decide +kernel
theorem dL_isJournal_240 : decode cL_isJournal 240 = .ok (.iload 6, 2) := by decide +kernel
theorem dL_isJournal_242 : decode cL_isJournal 242 = .ok (.aload_n 0, 1) := by decide +kernel
theorem dL_isJournal_243 : decode cL_isJournal 243 = .ok (.iload 7, 2) := by decide +kernel
theorem dL_isJournal_245 : decode cL_isJournal 245 = .ok (.invokevirtual 73, 3) := by decide +kernel
theorem dL_isJournal_248 : decode cL_isJournal 248 = .ok (.iadd, 1) := by decide +kernel
theorem dL_isJournal_249 : decode cL_isJournal 249 = .ok (.istore 6, 2) := by decide +kernel
theorem dL_isJournal_251 : decode cL_isJournal 251 = .ok (.iinc 7 1, 3) := by decide +kernel
theorem dL_isJournal_254 : decode cL_isJournal 254 = .ok (.goto (-20), 3) := by decide +kernel
theorem dL_isJournal_257 : decode cL_isJournal 257 = .ok (.iconst 0, 1) := by decide +kernel
theorem dL_isJournal_258 : decode cL_isJournal 258 = .ok (.istore 7, 2) := by decide +kernel
theorem dL_isJournal_260 : decode cL_isJournal 260 = .ok (.iload 7, 2) := by decide +kernel
theorem dL_isJournal_262 : decode cL_isJournal 262 = .ok (.iload_n 1, 1) := by decide +kernel
theorem dL_isJournal_263 : decode cL_isJournal 263 = .ok (.if_icmp .ge 154, 3) := by decide +kernel
theorem dL_isJournal_266 : decode cL_isJournal 266 = .ok (.aload_n 0, 1) := by decide +kernel
theorem dL_isJournal_267 : decode cL_isJournal 267 = .ok (.iload 7, 2) := by decide +kernel
theorem dL_isJournal_269 : decode cL_isJournal 269 = .ok (.iconst 4, 1) := by decide +kernel
theorem dL_isJournal_270 : decode cL_isJournal 270 = .ok (.invokevirtual 76, 3) := by decide +kernel
theorem dL_isJournal_273 : decode cL_isJournal 273 = .ok (.istore 8, 2) := by decide +kernel
theorem dL_isJournal_275 : decode cL_isJournal 275 = .ok (.bipush 6, 2) := by decide +kernel
theorem dL_isJournal_277 : decode cL_isJournal 277 = .ok (.iconst 4, 1) := by decide +kernel
theorem dL_isJournal_278 : decode cL_isJournal 278 = .ok (.aload_n 0, 1) := by decide +kernel
theorem dL_isJournal_279 : decode cL_isJournal 279 = .ok (.iload 7, 2) := by decide +kernel
theorem dL_isJournal_281 : decode cL_isJournal 281 = .ok (.iconst 5, 1) := by decide +kernel
theorem dL_isJournal_282 : decode cL_isJournal 282 = .ok (.invokevirtual 76, 3) := by decide +kernel
theorem dL_isJournal_285 : decode cL_isJournal 285 = .ok (.imul, 1) := by decide +kernel
theorem dL_isJournal_286 : decode cL_isJournal 286 = .ok (.iadd, 1) := by decide +kernel
theorem dL_isJournal_287 : decode cL_isJournal 287 = .ok (.istore 9, 2) := by decide +kernel
theorem dL_isJournal_289 : decode cL_isJournal 289 = .ok (.aload_n 0, 1) := by decide +kernel
theorem dL_isJournal_290 : decode cL_isJournal 290 = .ok (.iload 8, 2) := by decide +kernel
theorem dL_isJournal_292 : decode cL_isJournal 292 = .ok (.iload 9, 2) := by decide +kernel
theorem dL_isJournal_294 : decode cL_isJournal 294 = .ok (.invokevirtual 68, 3) := by decide +kernel
theorem dL_isJournal_297 : decode cL_isJournal 297 = .ok (.sipush 10000, 3) := by decide +kernel
theorem dL_isJournal_300 : decode cL_isJournal 300 = .ok (.aload_n 0, 1) := by decide +kernel
theorem dL_isJournal_301 : decode cL_isJournal 301 = .ok (.iload 7, 2) := by decide +kernel
theorem dL_isJournal_303 : decode cL_isJournal 303 = .ok (.iconst 1, 1) := by decide +kernel
theorem dL_isJournal_304 : decode cL_isJournal 304 = .ok (.invokevirtual 76, 3) := by decide +kernel
theorem dL_isJournal_307 : decode cL_isJournal 307 = .ok (.imul, 1) := by decide +kernel
theorem dL_isJournal_308 : decode cL_isJournal 308 = .ok (.aload_n 0, 1) := by decide +kernel
theorem dL_isJournal_309 : decode cL_isJournal 309 = .ok (.iload 7, 2) := by decide +kernel
theorem dL_isJournal_311 : decode cL_isJournal 311 = .ok (.iconst 0, 1) := by decide +kernel
theorem dL_isJournal_312 : decode cL_isJournal 312 = .ok (.invokevirtual 76, 3) := by decide +kernel
theorem dL_isJournal_315 : decode cL_isJournal 315 = .ok (.iadd, 1) := by decide +kernel
theorem dL_isJournal_316 : decode cL_isJournal 316 = .ok (.if_icmp .ne 47, 3) := by decide +kernel
theorem dL_isJournal_319 : decode cL_isJournal 319 = .ok (.aload_n 0, 1) := by decide +kernel
theorem dL_isJournal_320 : decode cL_isJournal 320 = .ok (.iload 8, 2) := by decide +kernel
theorem dL_isJournal_322 : decode cL_isJournal 322 = .ok (.iload 9, 2) := by decide +kernel
theorem dL_isJournal_324 : decode cL_isJournal 324 = .ok (.iconst 1, 1) := by decide +kernel
theorem dL_isJournal_325 : decode cL_isJournal 325 = .ok (.iadd, 1) := by decide +kernel
theorem dL_isJournal_326 : decode cL_isJournal 326 = .ok (.invokevirtual 68, 3) := by decide +kernel
theorem dL_isJournal_329 : decode cL_isJournal 329 = .ok (.aload_n 0, 1) := by decide +kernel
theorem dL_isJournal_330 : decode cL_isJournal 330 = .ok (.iload 7, 2) := by decide +kernel
theorem dL_isJournal_332 : decode cL_isJournal 332 = .ok (.iconst 2, 1) := by decide +kernel
theorem dL_isJournal_333 : decode cL_isJournal 333 = .ok (.invokevirtual 76, 3) := by decide +kernel
theorem dL_isJournal_336 : decode cL_isJournal 336 = .ok (.if_icmp .ne 27, 3) := by decide +kernel
theorem dL_isJournal_339 : decode cL_isJournal 339 = .ok (.aload_n 0, 1) := by decide +kernel
theorem dL_isJournal_340 : decode cL_isJournal 340 = .ok (.iload 8, 2) := by decide +kernel
theorem dL_isJournal_342 : decode cL_isJournal 342 = .ok (.iload 9, 2) := by decide +kernel
theorem dL_isJournal_344 : decode cL_isJournal 344 = .ok (.iconst 2, 1) := by decide +kernel
theorem dL_isJournal_345 : decode cL_isJournal 345 = .ok (.iadd, 1) := by decide +kernel
theorem dL_isJournal_346 : decode cL_isJournal 346 = .ok (.invokevirtual 68, 3) := by decide +kernel
theorem dL_isJournal_349 : decode cL_isJournal 349 = .ok (.aload_n 0, 1) := by decide +kernel
theorem dL_isJournal_350 : decode cL_isJournal 350 = .ok (.iload 7, 2) := by decide +kernel
theorem dL_isJournal_352 : decode cL_isJournal 352 = .ok (.iconst 3, 1) := by decide +kernel
theorem dL_isJournal_353 : decode cL_isJournal 353 = .ok (.invokevirtual 76, 3) := by decide +kernel
theorem dL_isJournal_356 : decode cL_isJournal 356 = .ok (.if_icmp .ne 7, 3) := by decide +kernel
theorem dL_isJournal_359 : decode cL_isJournal 359 = .ok (.iconst 1, 1) := by decide +kernel
theorem dL_isJournal_360 : decode cL_isJournal 360 = .ok (.goto 4, 3) := by decide +kernel
theorem dL_isJournal_363 : decode cL_isJournal 363 = .ok (.iconst 0, 1) := by decide +kernel
theorem dL_isJournal_364 : decode cL_isJournal 364 = .ok (.istore 10, 2) := by decide +kernel
theorem dL_isJournal_366 : decode cL_isJournal 366 = .ok (.iload 10, 2) := by decide +kernel
theorem dL_isJournal_368 : decode cL_isJournal 368 = .ok (.ifCond .eq 41, 3) := by decide +kernel
theorem dL_isJournal_371 : decode cL_isJournal 371 = .ok (.iload 7, 2) := by decide +kernel
theorem dL_isJournal_373 : decode cL_isJournal 373 = .ok (.ifCond .le 38, 3) := by decide +kernel
theorem dL_isJournal_376 : decode cL_isJournal 376 = .ok (.aload_n 0, 1) := by decide +kernel
theorem dL_isJournal_377 : decode cL_isJournal 377 = .ok (.iload 7, 2) := by decide +kernel
theorem dL_isJournal_379 : decode cL_isJournal 379 = .ok (.iconst 1, 1) := by decide +kernel
theorem dL_isJournal_380 : decode cL_isJournal 380 = .ok (.isub, 1) := by decide +kernel
theorem dL_isJournal_381 : decode cL_isJournal 381 = .ok (.iconst 4, 1) := by decide +kernel
theorem dL_isJournal_382 : decode cL_isJournal 382 = .ok (.invokevirtual 76, 3) := by decide +kernel
theorem dL_isJournal_385 : decode cL_isJournal 385 = .ok (.iload 8, 2) := by decide +kernel
theorem dL_isJournal_387 : decode cL_isJournal 387 = .ok (.if_icmp .ne 24, 3) := by decide +kernel
theorem dL_isJournal_390 : decode cL_isJournal 390 = .ok (.aload_n 0, 1) := by decide +kernel
theorem dL_isJournal_391 : decode cL_isJournal 391 = .ok (.iload 7, 2) := by decide +kernel
theorem dL_isJournal_393 : decode cL_isJournal 393 = .ok (.iconst 1, 1) := by decide +kernel
theorem dL_isJournal_394 : decode cL_isJournal 394 = .ok (.isub, 1) := by decide +kernel
theorem dL_isJournal_395 : decode cL_isJournal 395 = .ok (.iconst 5, 1) := by decide +kernel
theorem dL_isJournal_396 : decode cL_isJournal 396 = .ok (.invokevirtual 76, 3) := by decide +kernel
theorem dL_isJournal_399 : decode cL_isJournal 399 = .ok (.aload_n 0, 1) := by decide +kernel
theorem dL_isJournal_400 : decode cL_isJournal 400 = .ok (.iload 7, 2) := by decide +kernel
theorem dL_isJournal_402 : decode cL_isJournal 402 = .ok (.iconst 5, 1) := by decide +kernel
theorem dL_isJournal_403 : decode cL_isJournal 403 = .ok (.invokevirtual 76, 3) := by decide +kernel
theorem dL_isJournal_406 : decode cL_isJournal 406 = .ok (.if_icmp .lt 5, 3) := by decide +kernel
theorem dL_isJournal_409 : decode cL_isJournal 409 = .ok (.iconst 0, 1) := by decide +kernel
theorem dL_isJournal_410 : decode cL_isJournal 410 = .ok (.ireturn, 1) := by decide +kernel
theorem dL_isJournal_411 : decode cL_isJournal 411 = .ok (.iinc 7 1, 3) := by decide +kernel
theorem dL_isJournal_414 : decode cL_isJournal 414 = .ok (.goto (-154), 3) := by decide +kernel
theorem dL_isJournal_417 : decode cL_isJournal 417 = .ok (.iload_n 2, 1) := by decide +kernel
theorem dL_isJournal_418 : decode cL_isJournal 418 = .ok (.iload_n 1, 1) := by decide +kernel
theorem dL_isJournal_419 : decode cL_isJournal 419 = .ok (.if_icmp .ne 59, 3) := by decide +kernel
theorem dL_isJournal_422 : decode cL_isJournal 422 = .ok (.iload_n 3, 1) := by decide +kernel
theorem dL_isJournal_423 : decode cL_isJournal 423 = .ok (.iload_n 1, 1) := by decide +kernel
theorem dL_isJournal_424 : decode cL_isJournal 424 = .ok (.if_icmp .ne 54, 3) := by decide +kernel
theorem dL_isJournal_427 : decode cL_isJournal 427 = .ok (.aload_n 0, 1) := by decide +kernel
theorem dL_isJournal_428 : decode cL_isJournal 428 = .ok (.bipush (-2), 2) := by decide +kernel
theorem dL_isJournal_430 : decode cL_isJournal 430 = .ok (.invokevirtual 62, 3) := by decide +kernel
theorem dL_isJournal_433 : decode cL_isJournal 433 = .ok (.iload 4, 2) := by decide +kernel
theorem dL_isJournal_435 : decode cL_isJournal 435 = .ok (.if_icmp .ne 43, 3) := by decide +kernel
theorem dL_isJournal_438 : decode cL_isJournal 438 = .ok (.iload 5, 2) := by decide +kernel
theorem dL_isJournal_440 : decode cL_isJournal 440 = .ok (.ifCond .le 38, 3) := by decide +kernel
theorem dL_isJournal_443 : decode cL_isJournal 443 = .ok (.iload 6, 2) := by decide +kernel
theorem dL_isJournal_445 : decode cL_isJournal 445 = .ok (.aload_n 0, 1) := by decide +kernel
theorem dL_isJournal_446 : decode cL_isJournal 446 = .ok (.iconst (-1), 1) := by decide +kernel
theorem dL_isJournal_447 : decode cL_isJournal 447 = .ok (.invokevirtual 73, 3) := by decide +kernel
theorem dL_isJournal_450 : decode cL_isJournal 450 = .ok (.if_icmp .ne 28, 3) := by decide +kernel
theorem dL_isJournal_453 : decode cL_isJournal 453 = .ok (.aload_n 0, 1) := by decide +kernel
theorem dL_isJournal_454 : decode cL_isJournal 454 = .ok (.iload_n 1, 1) := by decide +kernel
theorem dL_isJournal_455 : decode cL_isJournal 455 = .ok (.iconst 0, 1) := by decide +kernel
theorem dL_isJournal_456 : decode cL_isJournal 456 = .ok (.invokevirtual 76, 3) := by decide +kernel
theorem dL_isJournal_459 : decode cL_isJournal 459 = .ok (.bipush (-9), 2) := by decide +kernel
theorem dL_isJournal_461 : decode cL_isJournal 461 = .ok (.if_icmp .ne 17, 3) := by decide +kernel
theorem dL_isJournal_464 : decode cL_isJournal 464 = .ok (.aload_n 0, 1) := by decide +kernel
theorem dL_isJournal_465 : decode cL_isJournal 465 = .ok (.iconst 5, 1) := by decide +kernel
theorem dL_isJournal_466 : decode cL_isJournal 466 = .ok (.iconst 0, 1) := by decide +kernel
theorem dL_isJournal_467 : decode cL_isJournal 467 = .ok (.invokevirtual 68, 3) := by decide +kernel
theorem dL_isJournal_470 : decode cL_isJournal 470 = .ok (.iconst (-1), 1) := by decide +kernel
theorem dL_isJournal_471 : decode cL_isJournal 471 = .ok (.if_icmp .ne 7, 3) := by decide +kernel
theorem dL_isJournal_474 : decode cL_isJournal 474 = .ok (.iconst 1, 1) := by decide +kernel
theorem dL_isJournal_475 : decode cL_isJournal 475 = .ok (.goto 4, 3) := by decide +kernel
theorem dL_isJournal_478 : decode cL_isJournal 478 = .ok (.iconst 0, 1) := by decide +kernel
theorem dL_isJournal_479 : decode cL_isJournal 479 = .ok (.ireturn, 1) := by decide +kernel
theorem dL_isKnown_0 : decode cL_isKnown 0 = .ok (.aload_n 0, 1) := by decide +kernel
theorem dL_isKnown_1 : decode cL_isKnown 1 = .ok (.iconst 0, 1) := by decide +kernel
theorem dL_isKnown_2 : decode cL_isKnown 2 = .ok (.invokevirtual 31, 3) := by decide +kernel
theorem dL_isKnown_5 : decode cL_isKnown 5 = .ok (.ifCond .ne 39, 3) := by decide +kernel
theorem dL_isKnown_8 : decode cL_isKnown 8 = .ok (.aload_n 0, 1) := by decide +kernel
theorem dL_isKnown_9 : decode cL_isKnown 9 = .ok (.iconst 2, 1) := by decide +kernel
theorem dL_isKnown_10 : decode cL_isKnown 10 = .ok (.invokevirtual 31, 3) := by decide +kernel
theorem dL_isKnown_13 : decode cL_isKnown 13 = .ok (.bipush (-9), 2) := by decide +kernel
theorem dL_isKnown_15 : decode cL_isKnown 15 = .ok (.if_icmp .ne 27, 3) := by decide +kernel
theorem dL_isKnown_18 : decode cL_isKnown 18 = .ok (.aload_n 0, 1) := by decide +kernel
theorem dL_isKnown_19 : decode cL_isKnown 19 = .ok (.bipush 7, 2) := by decide +kernel
theorem dL_isKnown_21 : decode cL_isKnown 21 = .ok (.invokevirtual 31, 3) := by decide +kernel
theorem dL_isKnown_24 : decode cL_isKnown 24 = .ok (.bipush (-9), 2) := by decide +kernel
theorem dL_isKnown_26 : decode cL_isKnown 26 = .ok (.if_icmp .ne 16, 3) := by decide +kernel
theorem dL_isKnown_29 : decode cL_isKnown 29 = .ok (.aload_n 0, 1) := by decide +kernel
theorem dL_isKnown_30 : decode cL_isKnown 30 = .ok (.invokevirtual 47, 3) := by decide +kernel
theorem dL_isKnown_33 : decode cL_isKnown 33 = .ok (.bipush (-2), 2) := by decide +kernel
theorem dL_isKnown_35 : decode cL_isKnown 35 = .ok (.if_icmp .ne 7, 3) := by decide +kernel
theorem dL_isKnown_38 : decode cL_isKnown 38 = .ok (.iconst 1, 1) := by decide +kernel
theorem dL_isKnown_39 : decode cL_isKnown 39 = .ok (.goto 4, 3) := by decide +kernel
theorem dL_isKnown_42 : decode cL_isKnown 42 = .ok (.iconst 0, 1) := by decide +kernel
theorem dL_isKnown_43 : decode cL_isKnown 43 = .ok (.ireturn, 1) := by decide +kernel
theorem dL_isKnown_44 : decode cL_isKnown 44 = .ok (.aload_n 0, 1) := by decide +kernel
theorem dL_isKnown_45 : decode cL_isKnown 45 = .ok (.iconst 2, 1) := by decide +kernel
theorem dL_isKnown_46 : decode cL_isKnown 46 = .ok (.invokevirtual 31, 3) := by decide +kernel
theorem dL_isKnown_49 : decode cL_isKnown 49 = .ok (.istore_n 1, 1) := by decide +kernel
theorem dL_isKnown_50 : decode cL_isKnown 50 = .ok (.aload_n 0, 1) := by decide +kernel
theorem dL_isKnown_51 : decode cL_isKnown 51 = .ok (.iconst 3, 1) := by decide +kernel
theorem dL_isKnown_52 : decode cL_isKnown 52 = .ok (.invokevirtual 31, 3) := by decide +kernel
theorem dL_isKnown_55 : decode cL_isKnown 55 = .ok (.istore_n 2, 1) := by decide +kernel
theorem dL_isKnown_56 : decode cL_isKnown 56 = .ok (.aload_n 0, 1) := by decide +kernel
theorem dL_isKnown_57 : decode cL_isKnown 57 = .ok (.iconst 4, 1) := by decide +kernel
theorem dL_isKnown_58 : decode cL_isKnown 58 = .ok (.invokevirtual 31, 3) := by decide +kernel
theorem dL_isKnown_61 : decode cL_isKnown 61 = .ok (.istore_n 3, 1) := by decide +kernel
theorem dL_isKnown_62 : decode cL_isKnown 62 = .ok (.aload_n 0, 1) := by decide +kernel
theorem dL_isKnown_63 : decode cL_isKnown 63 = .ok (.iconst 5, 1) := by decide +kernel
theorem dL_isKnown_64 : decode cL_isKnown 64 = .ok (.invokevirtual 31, 3) := by decide +kernel
theorem dL_isKnown_67 : decode cL_isKnown 67 = .ok (.istore 4, 2) := by decide +kernel
theorem dL_isKnown_69 : decode cL_isKnown 69 = .ok (.aload_n 0, 1) := by decide +kernel
theorem dL_isKnown_70 : decode cL_isKnown 70 = .ok (.bipush 6, 2) := by decide +kernel
theorem dL_isKnown_72 : decode cL_isKnown 72 = .ok (.invokevirtual 31, 3) := by decide +kernel
theorem dL_isKnown_75 : decode cL_isKnown 75 = .ok (.istore 5, 2) := by decide +kernel
theorem dL_isKnown_77 : decode cL_isKnown 77 = .ok (.aload_n 0, 1) := by decide +kernel
theorem dL_isKnown_78 : decode cL_isKnown 78 = .ok (.bipush 7, 2) := by decide +kernel
theorem dL_isKnown_80 : decode cL_isKnown 80 = .ok (.invokevirtual 31, 3) := by decide +kernel
theorem dL_isKnown_83 : decode cL_isKnown 83 = .ok (.istore 6, 2) := by decide +kernel
theorem dL_isKnown_85 : decode cL_isKnown 85 = .ok (.aload_n 0, 1) := by decide +kernel
theorem dL_isKnown_86 : decode cL_isKnown 86 = .ok (.iconst (-1), 1) := by decide +kernel
theorem dL_isKnown_87 : decode cL_isKnown 87 = .ok (.invokevirtual 62, 3) := by decide +kernel
theorem dL_isKnown_90 : decode cL_isKnown 90 = .ok (.istore 7, 2) := by decide +kernel
theorem dL_isKnown_92 : decode cL_isKnown 92 = .ok (.aload_n 0, 1) := by decide +kernel
theorem dL_isKnown_93 : decode cL_isKnown 93 = .ok (.invokevirtual 50, 3) := by decide +kernel
theorem dL_isKnown_96 : decode cL_isKnown 96 = .ok (.bipush (-2), 2) := by decide +kernel
theorem dL_isKnown_98 : decode cL_isKnown 98 = .ok (.if_icmp .ne 74, 3) := by decide +kernel
theorem dL_isKnown_101 : decode cL_isKnown 101 = .ok (.aload_n 0, 1) := by decide +kernel
theorem dL_isKnown_102 : decode cL_isKnown 102 = .ok (.invokevirtual 47, 3) := by decide +kernel
theorem dL_isKnown_105 : decode cL_isKnown 105 = .ok (.iload 7, 2) := by decide +kernel
theorem dL_isKnown_107 : decode cL_isKnown 107 = .ok (.if_icmp .ne 65, 3) := by decide +kernel
theorem dL_isKnown_110 : decode cL_isKnown 110 = .ok (.aload_n 0, 1) := by decide +kernel
theorem dL_isKnown_111 : decode cL_isKnown 111 = .ok (.invokevirtual 50, 3) := by decide +kernel
theorem dL_isKnown_114 : decode cL_isKnown 114 = .ok (.iload_n 1, 1) := by decide +kernel
theorem dL_isKnown_115 : decode cL_isKnown 115 = .ok (.if_icmp .ne 57, 3) := by decide +kernel
theorem dL_isKnown_118 : decode cL_isKnown 118 = .ok (.aload_n 0, 1) := by decide +kernel
theorem dL_isKnown_119 : decode cL_isKnown 119 = .ok (.iconst 3, 1) := by decide +kernel
theorem dL_isKnown_120 : decode cL_isKnown 120 = .ok (.invokevirtual 31, 3) := by decide +kernel
theorem dL_isKnown_123 : decode cL_isKnown 123 = .ok (.iload_n 2, 1) := by decide +kernel
theorem dL_isKnown_124 : decode cL_isKnown 124 = .ok (.if_icmp .ne 48, 3) := by decide +kernel
theorem dL_isKnown_127 : decode cL_isKnown 127 = .ok (.aload_n 0, 1) := by decide +kernel
theorem dL_isKnown_128 : decode cL_isKnown 128 = .ok (.iconst 4, 1) := by decide +kernel
theorem dL_isKnown_129 : decode cL_isKnown 129 = .ok (.invokevirtual 31, 3) := by decide +kernel
theorem dL_isKnown_132 : decode cL_isKnown 132 = .ok (.iload_n 3, 1) := by decide +kernel
theorem dL_isKnown_133 : decode cL_isKnown 133 = .ok (.if_icmp .ne 39, 3) := by decide +kernel
theorem dL_isKnown_136 : decode cL_isKnown 136 = .ok (.aload_n 0, 1) := by decide +kernel
theorem dL_isKnown_137 : decode cL_isKnown 137 = .ok (.iconst 5, 1) := by decide +kernel
theorem dL_isKnown_138 : decode cL_isKnown 138 = .ok (.invokevirtual 31, 3) := by decide +kernel
theorem dL_isKnown_141 : decode cL_isKnown 141 = .ok (.iload 4, 2) := by decide +kernel
theorem dL_isKnown_143 : decode cL_isKnown 143 = .ok (.if_icmp .ne 29, 3) := by decide +kernel
theorem dL_isKnown_146 : decode cL_isKnown 146 = .ok (.aload_n 0, 1) := by decide +kernel
theorem dL_isKnown_147 : decode cL_isKnown 147 = .ok (.bipush 6, 2) := by decide +kernel
theorem dL_isKnown_149 : decode cL_isKnown 149 = .ok (.invokevirtual 31, 3) := by decide +kernel
theorem dL_isKnown_152 : decode cL_isKnown 152 = .ok (.iload 5, 2) := by decide +kernel
theorem dL_isKnown_154 : decode cL_isKnown 154 = .ok (.if_icmp .ne 18, 3) := by decide +kernel
theorem dL_isKnown_157 : decode cL_isKnown 157 = .ok (.aload_n 0, 1) := by decide +kernel
theorem dL_isKnown_158 : decode cL_isKnown 158 = .ok (.bipush 7, 2) := by decide +kernel
theorem dL_isKnown_160 : decode cL_isKnown 160 = .ok (.invokevirtual 31, 3) := by decide +kernel
theorem dL_isKnown_163 : decode cL_isKnown 163 = .ok (.iload 6, 2) := by decide +kernel
theorem dL_isKnown_165 : decode cL_isKnown 165 = .ok (.if_icmp .ne 7, 3) := by decide +kernel
theorem dL_isKnown_168 : decode cL_isKnown 168 = .ok (.iconst 1, 1) := by decide +kernel
theorem dL_isKnown_169 : decode cL_isKnown 169 = .ok (.goto 4, 3) := by decide +kernel
theorem dL_isKnown_172 : decode cL_isKnown 172 = .ok (.iconst 0, 1) := by decide +kernel
theorem dL_isKnown_173 : decode cL_isKnown 173 = .ok (.istore 8, 2) := by decide +kernel
theorem dL_isKnown_175 : decode cL_isKnown 175 = .ok (.iload 8, 2) := by decide +kernel
theorem dL_isKnown_177 : decode cL_isKnown 177 = .ok (.ifCond .eq 21, 3) := by decide +kernel
theorem dL_isKnown_180 : decode cL_isKnown 180 = .ok (.aload_n 0, 1) := by decide +kernel
theorem dL_isKnown_181 : decode cL_isKnown 181 = .ok (.invokevirtual 53, 3) := by decide +kernel
theorem dL_isKnown_184 : decode cL_isKnown 184 = .ok (.ifCond .lt 14, 3) := by decide +kernel
theorem dL_isKnown_187 : decode cL_isKnown 187 = .ok (.aload_n 0, 1) := by decide +kernel
theorem dL_isKnown_188 : decode cL_isKnown 188 = .ok (.invokevirtual 53, 3) := by decide +kernel
theorem dL_isKnown_191 : decode cL_isKnown 191 = .ok (.ifCond .lt 7, 3) := by decide +kernel
theorem dL_isKnown_194 : decode cL_isKnown 194 = .ok (.iconst 1, 1) := by decide +kernel
theorem dL_isKnown_195 : decode cL_isKnown 195 = .ok (.goto 4, 3) := by decide +kernel
theorem dL_isKnown_198 : decode cL_isKnown 198 = .ok (.iconst 0, 1) := by decide +kernel
theorem dL_isKnown_199 : decode cL_isKnown 199 = .ok (.ireturn, 1) := by decide +kernel
theorem dL_isCut_0 : decode cL_isCut 0 = .ok (.aload_n 0, 1) := by decide +kernel
theorem dL_isCut_1 : decode cL_isCut 1 = .ok (.iload_n 1, 1) := by decide +kernel
theorem dL_isCut_2 : decode cL_isCut 2 = .ok (.invokevirtual 79, 3) := by decide +kernel
theorem dL_isCut_5 : decode cL_isCut 5 = .ok (.istore_n 3, 1) := by decide +kernel
theorem dL_isCut_6 : decode cL_isCut 6 = .ok (.aload_n 0, 1) := by decide +kernel
theorem dL_isCut_7 : decode cL_isCut 7 = .ok (.iload_n 1, 1) := by decide +kernel
theorem dL_isCut_8 : decode cL_isCut 8 = .ok (.invokevirtual 82, 3) := by decide +kernel
theorem dL_isCut_11 : decode cL_isCut 11 = .ok (.istore 4, 2) := by decide +kernel
theorem dL_isCut_13 : decode cL_isCut 13 = .ok (.iload_n 3, 1) := by decide +kernel
theorem dL_isCut_14 : decode cL_isCut 14 = .ok (.ifCond .ge 26, 3) := by decide +kernel
theorem dL_isCut_17 : decode cL_isCut 17 = .ok (.iload 4, 2) := by decide +kernel
theorem dL_isCut_19 : decode cL_isCut 19 = .ok (.iload_n 3, 1) := by decide +kernel
theorem dL_isCut_20 : decode cL_isCut 20 = .ok (.if_icmp .ne 18, 3) := by decide +kernel
theorem dL_isCut_23 : decode cL_isCut 23 = .ok (.aload_n 0, 1) := by decide +kernel
theorem dL_isCut_24 : decode cL_isCut 24 = .ok (.iload_n 1, 1) := by decide +kernel
theorem dL_isCut_25 : decode cL_isCut 25 = .ok (.iload_n 2, 1) := by decide +kernel
theorem dL_isCut_26 : decode cL_isCut 26 = .ok (.iconst 0, 1) := by decide +kernel
theorem dL_isCut_27 : decode cL_isCut 27 = .ok (.invokevirtual 85, 3) := by decide +kernel
theorem dL_isCut_30 : decode cL_isCut 30 = .ok (.iload_n 3, 1) := by decide +kernel
theorem dL_isCut_31 : decode cL_isCut 31 = .ok (.if_icmp .ne 7, 3) := by decide +kernel
theorem dL_isCut_34 : decode cL_isCut 34 = .ok (.iconst 1, 1) := by decide +kernel
theorem dL_isCut_35 : decode cL_isCut 35 = .ok (.goto 4, 3) := by decide +kernel
theorem dL_isCut_38 : decode cL_isCut 38 = .ok (.iconst 0, 1) := by decide +kernel
theorem dL_isCut_39 : decode cL_isCut 39 = .ok (.ireturn, 1) := by decide +kernel
theorem dL_isCut_40 : decode cL_isCut 40 = .ok (.aload_n 0, 1) := by decide +kernel
theorem dL_isCut_41 : decode cL_isCut 41 = .ok (.iconst 2, 1) := by decide +kernel
theorem dL_isCut_42 : decode cL_isCut 42 = .ok (.invokevirtual 31, 3) := by decide +kernel
theorem dL_isCut_45 : decode cL_isCut 45 = .ok (.istore 5, 2) := by decide +kernel
theorem dL_isCut_47 : decode cL_isCut 47 = .ok (.aload_n 0, 1) := by decide +kernel
theorem dL_isCut_48 : decode cL_isCut 48 = .ok (.iload_n 1, 1) := by decide +kernel
theorem dL_isCut_49 : decode cL_isCut 49 = .ok (.iload_n 2, 1) := by decide +kernel
theorem dL_isCut_50 : decode cL_isCut 50 = .ok (.iconst 2, 1) := by decide +kernel
theorem dL_isCut_51 : decode cL_isCut 51 = .ok (.invokevirtual 85, 3) := by decide +kernel
theorem dL_isCut_54 : decode cL_isCut 54 = .ok (.istore 6, 2) := by decide +kernel
theorem dL_isCut_56 : decode cL_isCut 56 = .ok (.iload_n 3, 1) := by decide +kernel
theorem dL_isCut_57 : decode cL_isCut 57 = .ok (.iload 4, 2) := by decide +kernel
theorem dL_isCut_59 : decode cL_isCut 59 = .ok (.if_icmp .gt 56, 3) := by decide +kernel
theorem dL_isCut_62 : decode cL_isCut 62 = .ok (.iload 6, 2) := by decide +kernel
theorem dL_isCut_64 : decode cL_isCut 64 = .ok (.iload 5, 2) := by decide +kernel
theorem dL_isCut_66 : decode cL_isCut 66 = .ok (.if_icmp .ne 7, 3) := by decide +kernel
theorem dL_isCut_69 : decode cL_isCut 69 = .ok (.iconst 1, 1) := by decide +kernel
theorem dL_isCut_70 : decode cL_isCut 70 = .ok (.goto 4, 3) := by decide +kernel
theorem dL_isCut_73 : decode cL_isCut 73 = .ok (.iconst 0, 1) := by decide +kernel
theorem dL_isCut_74 : decode cL_isCut 74 = .ok (.iload_n 2, 1) := by decide +kernel
theorem dL_isCut_75 : decode cL_isCut 75 = .ok (.iload_n 3, 1) := by decide +kernel
theorem dL_isCut_76 : decode cL_isCut 76 = .ok (.if_icmp .ge 7, 3) := by decide +kernel
theorem dL_isCut_79 : decode cL_isCut 79 = .ok (.iconst 1, 1) := by decide +kernel
theorem dL_isCut_80 : decode cL_isCut 80 = .ok (.goto 4, 3) := by decide +kernel
theorem dL_isCut_83 : decode cL_isCut 83 = .ok (.iconst 0, 1) := by decide +kernel
theorem dL_isCut_84 : decode cL_isCut 84 = .ok (.if_icmp .ne 31, 3) := by decide +kernel
theorem dL_isCut_87 : decode cL_isCut 87 = .ok (.iload_n 2, 1) := by decide +kernel
theorem dL_isCut_88 : decode cL_isCut 88 = .ok (.iload 4, 2) := by decide +kernel
theorem dL_isCut_90 : decode cL_isCut 90 = .ok (.if_icmp .lt 21, 3) := by decide +kernel
theorem dL_isCut_93 : decode cL_isCut 93 = .ok (.aload_n 0, 1) := by decide +kernel
theorem dL_isCut_94 : decode cL_isCut 94 = .ok (.iload_n 1, 1) := by decide +kernel
theorem dL_isCut_95 : decode cL_isCut 95 = .ok (.iload_n 2, 1) := by decide +kernel
theorem dL_isCut_96 : decode cL_isCut 96 = .ok (.iconst 1, 1) := by decide +kernel
theorem dL_isCut_97 : decode cL_isCut 97 = .ok (.invokevirtual 85, 3) := by decide +kernel
theorem dL_isCut_100 : decode cL_isCut 100 = .ok (.aload_n 0, 1) := by decide +kernel
theorem dL_isCut_101 : decode cL_isCut 101 = .ok (.iload_n 1, 1) := by decide +kernel
theorem dL_isCut_102 : decode cL_isCut 102 = .ok (.bipush 30, 2) := by decide +kernel
theorem dL_isCut_104 : decode cL_isCut 104 = .ok (.iconst 1, 1) := by decide +kernel
theorem dL_isCut_105 : decode cL_isCut 105 = .ok (.invokevirtual 85, 3) := by decide +kernel
theorem dL_isCut_108 : decode cL_isCut 108 = .ok (.if_icmp .ne 7, 3) := by decide +kernel
theorem dL_isCut_111 : decode cL_isCut 111 = .ok (.iconst 1, 1) := by decide +kernel
theorem dL_isCut_112 : decode cL_isCut 112 = .ok (.goto 4, 3) := by decide +kernel
theorem dL_isCut_115 : decode cL_isCut 115 = .ok (.iconst 0, 1) := by decide +kernel
theorem dL_isCut_116 : decode cL_isCut 116 = .ok (.istore 7, 2) := by decide +kernel
theorem dL_isCut_118 : decode cL_isCut 118 = .ok (.aload_n 0, 1) := by decide +kernel
theorem dL_isCut_119 : decode cL_isCut 119 = .ok (.iload_n 2, 1) := by decide +kernel
theorem dL_isCut_120 : decode cL_isCut 120 = .ok (.invokevirtual 44, 3) := by decide +kernel
theorem dL_isCut_123 : decode cL_isCut 123 = .ok (.istore 8, 2) := by decide +kernel
theorem dL_isCut_125 : decode cL_isCut 125 = .ok (.aload_n 0, 1) := by decide +kernel
theorem dL_isCut_126 : decode cL_isCut 126 = .ok (.iload_n 1, 1) := by decide +kernel
theorem dL_isCut_127 : decode cL_isCut 127 = .ok (.invokevirtual 15, 3) := by decide +kernel
theorem dL_isCut_130 : decode cL_isCut 130 = .ok (.istore 9, 2) := by decide +kernel
theorem dL_isCut_132 : decode cL_isCut 132 = .ok (.iload 9, 2) := by decide +kernel
theorem dL_isCut_134 : decode cL_isCut 134 = .ok (.bipush (-4), 2) := by decide +kernel
theorem dL_isCut_136 : decode cL_isCut 136 = .ok (.if_icmp .ne 10, 3) := by decide +kernel
theorem dL_isCut_139 : decode cL_isCut 139 = .ok (.aload_n 0, 1) := by decide +kernel
theorem dL_isCut_140 : decode cL_isCut 140 = .ok (.invokevirtual 50, 3) := by decide +kernel
theorem dL_isCut_143 : decode cL_isCut 143 = .ok (.goto 4, 3) := by decide +kernel
theorem dL_isCut_146 : decode cL_isCut 146 = .ok (.iconst 0, 1) := by decide +kernel
theorem dL_isCut_147 : decode cL_isCut 147 = .ok (.istore 10, 2) := by decide +kernel
theorem dL_isCut_149 : decode cL_isCut 149 = .ok (.iload 7, 2) := by decide +kernel
theorem dL_isCut_151 : decode cL_isCut 151 = .ok (.ifCond .eq 56, 3) := by decide +kernel
theorem dL_isCut_154 : decode cL_isCut 154 = .ok (.iload 9, 2) := by decide +kernel
theorem dL_isCut_156 : decode cL_isCut 156 = .ok (.bipush (-4), 2) := by decide +kernel
theorem dL_isCut_158 : decode cL_isCut 158 = .ok (.if_icmp .ne 7, 3) := by decide +kernel
theorem dL_isCut_161 : decode cL_isCut 161 = .ok (.iconst 1, 1) := by decide +kernel
theorem dL_isCut_162 : decode cL_isCut 162 = .ok (.goto 4, 3) := by decide +kernel
theorem dL_isCut_165 : decode cL_isCut 165 = .ok (.iconst 0, 1) := by decide +kernel
theorem dL_isCut_166 : decode cL_isCut 166 = .ok (.iload_n 2, 1) := by decide +kernel
theorem dL_isCut_167 : decode cL_isCut 167 = .ok (.iload 4, 2) := by decide +kernel
theorem dL_isCut_169 : decode cL_isCut 169 = .ok (.if_icmp .ge 7, 3) := by decide +kernel
theorem dL_isCut_172 : decode cL_isCut 172 = .ok (.iconst 1, 1) := by decide +kernel
theorem dL_isCut_173 : decode cL_isCut 173 = .ok (.goto 4, 3) := by decide +kernel
theorem dL_isCut_176 : decode cL_isCut 176 = .ok (.iconst 0, 1) := by decide +kernel
theorem dL_isCut_177 : decode cL_isCut 177 = .ok (.if_icmp .ne 30, 3) := by decide +kernel
theorem dL_isCut_180 : decode cL_isCut 180 = .ok (.aload_n 0, 1) := by decide +kernel
theorem dL_isCut_181 : decode cL_isCut 181 = .ok (.iconst 2, 1) := by decide +kernel
theorem dL_isCut_182 : decode cL_isCut 182 = .ok (.invokevirtual 31, 3) := by decide +kernel
theorem dL_isCut_185 : decode cL_isCut 185 = .ok (.iload 6, 2) := by decide +kernel
theorem dL_isCut_187 : decode cL_isCut 187 = .ok (.if_icmp .ne 20, 3) := by decide +kernel
theorem dL_isCut_190 : decode cL_isCut 190 = .ok (.aload_n 0, 1) := by decide +kernel
theorem dL_isCut_191 : decode cL_isCut 191 = .ok (.iconst (-1), 1) := by decide +kernel
theorem dL_isCut_192 : decode cL_isCut 192 = .ok (.invokevirtual 62, 3) := by decide +kernel
theorem dL_isCut_195 : decode cL_isCut 195 = .ok (.aload_n 0, 1) := by decide +kernel
theorem dL_isCut_196 : decode cL_isCut 196 = .ok (.iconst (-1), 1) := by decide +kernel
theorem dL_isCut_197 : decode cL_isCut 197 = .ok (.invokevirtual 62, 3) := by decide +kernel
theorem dL_isCut_200 : decode cL_isCut 200 = .ok (.if_icmp .ne 7, 3) := by decide +kernel
theorem dL_isCut_203 : decode cL_isCut 203 = .ok (.iconst 1, 1) := by decide +kernel
theorem dL_isCut_204 : decode cL_isCut 204 = .ok (.goto 4, 3) := by decide +kernel
theorem dL_isCut_207 : decode cL_isCut 207 = .ok (.iconst 0, 1) := by decide +kernel
theorem dL_isCut_208 : decode cL_isCut 208 = .ok (.istore 7, 2) := by decide +kernel
theorem dL_isCut_210 : decode cL_isCut 210 = .ok (.aload_n 0, 1) := by decide +kernel
theorem dL_isCut_211 : decode cL_isCut 211 = .ok (.iconst (-1), 1) := by decide +kernel
theorem dL_isCut_212 : decode cL_isCut 212 = .ok (.invokevirtual 62, 3) := by decide +kernel
theorem dL_isCut_215 : decode cL_isCut 215 = .ok (.istore 11, 2) := by decide +kernel
theorem dL_isCut_217 : decode cL_isCut 217 = .ok (.aload_n 0, 1) := by decide +kernel
theorem dL_isCut_218 : decode cL_isCut 218 = .ok (.bipush (-2), 2) := by decide +kernel
theorem dL_isCut_220 : decode cL_isCut 220 = .ok (.invokevirtual 62, 3) := by decide +kernel
theorem dL_isCut_223 : decode cL_isCut 223 = .ok (.istore 12, 2) := by decide +kernel
theorem dL_isCut_225 : decode cL_isCut 225 = .ok (.iload 9, 2) := by decide +kernel
theorem dL_isCut_227 : decode cL_isCut 227 = .ok (.bipush (-4), 2) := by decide +kernel
theorem dL_isCut_229 : decode cL_isCut 229 = .ok (.if_icmp .ne 10, 3) := by decide +kernel
theorem dL_isCut_232 : decode cL_isCut 232 = .ok (.aload_n 0, 1) := by decide +kernel
theorem dL_isCut_233 : decode cL_isCut 233 = .ok (.invokevirtual 53, 3) := by decide +kernel
theorem dL_isCut_236 : decode cL_isCut 236 = .ok (.goto 4, 3) := by decide +kernel
theorem dL_isCut_239 : decode cL_isCut 239 = .ok (.iconst 0, 1) := by decide +kernel
theorem dL_isCut_240 : decode cL_isCut 240 = .ok (.istore 13, 2) := by decide +kernel
theorem dL_isCut_242 : decode cL_isCut 242 = .ok (.aload_n 0, 1) := by decide +kernel
theorem dL_isCut_243 : decode cL_isCut 243 = .ok (.invokevirtual 53, 3) := by decide +kernel
theorem dL_isCut_246 : decode cL_isCut 246 = .ok (.istore 13, 2) := by decide +kernel
theorem dL_isCut_248 : decode cL_isCut 248 = .ok (.aload_n 0, 1) := by decide +kernel
theorem dL_isCut_249 : decode cL_isCut 249 = .ok (.invokevirtual 53, 3) := by decide +kernel
theorem dL_isCut_252 : decode cL_isCut 252 = .ok (.istore 13, 2) := by decide +kernel
theorem dL_isCut_254 : decode cL_isCut 254 = .ok (.iload 7, 2) := by decide +kernel
theorem dL_isCut_256 : decode cL_isCut 256 = .ok (.ifCond .eq 41, 3) := by decide +kernel
theorem dL_isCut_259 : decode cL_isCut 259 = .ok (.aload_n 0, 1) := by decide +kernel
theorem dL_isCut_260 : decode cL_isCut 260 = .ok (.iconst 2, 1) := by decide +kernel
theorem dL_isCut_261 : decode cL_isCut 261 = .ok (.invokevirtual 31, 3) := by decide +kernel
theorem dL_isCut_264 : decode cL_isCut 264 = .ok (.iload 5, 2) := by decide +kernel
theorem dL_isCut_266 : decode cL_isCut 266 = .ok (.if_icmp .ne 31, 3) := by decide +kernel
theorem dL_isCut_269 : decode cL_isCut 269 = .ok (.aload_n 0, 1) := by decide +kernel
theorem dL_isCut_270 : decode cL_isCut 270 = .ok (.iload_n 1, 1) := by decide +kernel
theorem dL_isCut_271 : decode cL_isCut 271 = .ok (.iload_n 2, 1) := by decide +kernel
theorem dL_isCut_272 : decode cL_isCut 272 = .ok (.iconst 0, 1) := by decide +kernel
theorem dL_isCut_273 : decode cL_isCut 273 = .ok (.invokevirtual 85, 3) := by decide +kernel
theorem dL_isCut_276 : decode cL_isCut 276 = .ok (.iload 11, 2) := by decide +kernel
theorem dL_isCut_278 : decode cL_isCut 278 = .ok (.if_icmp .ne 19, 3) := by decide +kernel
theorem dL_isCut_281 : decode cL_isCut 281 = .ok (.aload_n 0, 1) := by decide +kernel
theorem dL_isCut_282 : decode cL_isCut 282 = .ok (.iload_n 1, 1) := by decide +kernel
theorem dL_isCut_283 : decode cL_isCut 283 = .ok (.iload_n 2, 1) := by decide +kernel
theorem dL_isCut_284 : decode cL_isCut 284 = .ok (.iconst 1, 1) := by decide +kernel
theorem dL_isCut_285 : decode cL_isCut 285 = .ok (.invokevirtual 85, 3) := by decide +kernel
theorem dL_isCut_288 : decode cL_isCut 288 = .ok (.iload 12, 2) := by decide +kernel
theorem dL_isCut_290 : decode cL_isCut 290 = .ok (.if_icmp .ne 7, 3) := by decide +kernel
theorem dL_isCut_293 : decode cL_isCut 293 = .ok (.iconst 1, 1) := by decide +kernel
theorem dL_isCut_294 : decode cL_isCut 294 = .ok (.goto 4, 3) := by decide +kernel
theorem dL_isCut_297 : decode cL_isCut 297 = .ok (.iconst 0, 1) := by decide +kernel
theorem dL_isCut_298 : decode cL_isCut 298 = .ok (.ireturn, 1) := by decide +kernel
theorem dL_areAlike_0 : decode cL_areAlike 0 = .ok (.aload_n 0, 1) := by decide +kernel
theorem dL_areAlike_1 : decode cL_areAlike 1 = .ok (.invokevirtual 89, 3) := by decide +kernel
theorem dL_areAlike_4 : decode cL_areAlike 4 = .ok (.aload_n 1, 1) := by decide +kernel
theorem dL_areAlike_5 : decode cL_areAlike 5 = .ok (.invokevirtual 89, 3) := by decide +kernel
theorem dL_areAlike_8 : decode cL_areAlike 8 = .ok (.fcmp .l, 1) := by decide +kernel
theorem dL_areAlike_9 : decode cL_areAlike 9 = .ok (.ifCond .ne 7, 3) := by decide +kernel
theorem dL_areAlike_12 : decode cL_areAlike 12 = .ok (.iconst 1, 1) := by decide +kernel
theorem dL_areAlike_13 : decode cL_areAlike 13 = .ok (.goto 4, 3) := by decide +kernel
theorem dL_areAlike_16 : decode cL_areAlike 16 = .ok (.iconst 0, 1) := by decide +kernel
theorem dL_areAlike_17 : decode cL_areAlike 17 = .ok (.istore_n 2, 1) := by decide +kernel
theorem dL_areAlike_18 : decode cL_areAlike 18 = .ok (.iconst 0, 1) := by decide +kernel
theorem dL_areAlike_19 : decode cL_areAlike 19 = .ok (.istore_n 3, 1) := by decide +kernel
theorem dL_areAlike_20 : decode cL_areAlike 20 = .ok (.iload_n 3, 1) := by decide +kernel
theorem dL_areAlike_21 : decode cL_areAlike 21 = .ok (.bipush 12, 2) := by decide +kernel
theorem dL_areAlike_23 : decode cL_areAlike 23 = .ok (.if_icmp .ge 32, 3) := by decide +kernel
theorem dL_areAlike_26 : decode cL_areAlike 26 = .ok (.iload_n 2, 1) := by decide +kernel
theorem dL_areAlike_27 : decode cL_areAlike 27 = .ok (.ifCond .eq 20, 3) := by decide +kernel
theorem dL_areAlike_30 : decode cL_areAlike 30 = .ok (.aload_n 0, 1) := by decide +kernel
theorem dL_areAlike_31 : decode cL_areAlike 31 = .ok (.iload_n 3, 1) := by decide +kernel
theorem dL_areAlike_32 : decode cL_areAlike 32 = .ok (.invokevirtual 31, 3) := by decide +kernel
theorem dL_areAlike_35 : decode cL_areAlike 35 = .ok (.aload_n 1, 1) := by decide +kernel
theorem dL_areAlike_36 : decode cL_areAlike 36 = .ok (.iload_n 3, 1) := by decide +kernel
theorem dL_areAlike_37 : decode cL_areAlike 37 = .ok (.invokevirtual 31, 3) := by decide +kernel
theorem dL_areAlike_40 : decode cL_areAlike 40 = .ok (.if_icmp .ne 7, 3) := by decide +kernel
theorem dL_areAlike_43 : decode cL_areAlike 43 = .ok (.iconst 1, 1) := by decide +kernel
theorem dL_areAlike_44 : decode cL_areAlike 44 = .ok (.goto 4, 3) := by decide +kernel
theorem dL_areAlike_47 : decode cL_areAlike 47 = .ok (.iconst 0, 1) := by decide +kernel
theorem dL_areAlike_48 : decode cL_areAlike 48 = .ok (.istore_n 2, 1) := by decide +kernel
theorem dL_areAlike_49 : decode cL_areAlike 49 = .ok (.iinc 3 1, 3) := by decide +kernel
theorem dL_areAlike_52 : decode cL_areAlike 52 = .ok (.goto (-32), 3) := by decide +kernel
theorem dL_areAlike_55 : decode cL_areAlike 55 = .ok (.iconst 0, 1) := by decide +kernel
theorem dL_areAlike_56 : decode cL_areAlike 56 = .ok (.istore_n 3, 1) := by decide +kernel
theorem dL_areAlike_57 : decode cL_areAlike 57 = .ok (.iload_n 3, 1) := by decide +kernel
theorem dL_areAlike_58 : decode cL_areAlike 58 = .ok (.iconst 5, 1) := by decide +kernel
theorem dL_areAlike_59 : decode cL_areAlike 59 = .ok (.if_icmp .ge 52, 3) := by decide +kernel
theorem dL_areAlike_62 : decode cL_areAlike 62 = .ok (.iconst 0, 1) := by decide +kernel
theorem dL_areAlike_63 : decode cL_areAlike 63 = .ok (.istore 4, 2) := by decide +kernel
theorem dL_areAlike_65 : decode cL_areAlike 65 = .ok (.iload 4, 2) := by decide +kernel
theorem dL_areAlike_67 : decode cL_areAlike 67 = .ok (.bipush 22, 2) := by decide +kernel
theorem dL_areAlike_69 : decode cL_areAlike 69 = .ok (.if_icmp .ge 36, 3) := by decide +kernel
theorem dL_areAlike_72 : decode cL_areAlike 72 = .ok (.iload_n 2, 1) := by decide +kernel
theorem dL_areAlike_73 : decode cL_areAlike 73 = .ok (.ifCond .eq 24, 3) := by decide +kernel
theorem dL_areAlike_76 : decode cL_areAlike 76 = .ok (.aload_n 0, 1) := by decide +kernel
theorem dL_areAlike_77 : decode cL_areAlike 77 = .ok (.iload_n 3, 1) := by decide +kernel
theorem dL_areAlike_78 : decode cL_areAlike 78 = .ok (.iload 4, 2) := by decide +kernel
theorem dL_areAlike_80 : decode cL_areAlike 80 = .ok (.invokevirtual 68, 3) := by decide +kernel
theorem dL_areAlike_83 : decode cL_areAlike 83 = .ok (.aload_n 1, 1) := by decide +kernel
theorem dL_areAlike_84 : decode cL_areAlike 84 = .ok (.iload_n 3, 1) := by decide +kernel
theorem dL_areAlike_85 : decode cL_areAlike 85 = .ok (.iload 4, 2) := by decide +kernel
theorem dL_areAlike_87 : decode cL_areAlike 87 = .ok (.invokevirtual 68, 3) := by decide +kernel
theorem dL_areAlike_90 : decode cL_areAlike 90 = .ok (.if_icmp .ne 7, 3) := by decide +kernel
theorem dL_areAlike_93 : decode cL_areAlike 93 = .ok (.iconst 1, 1) := by decide +kernel
theorem dL_areAlike_94 : decode cL_areAlike 94 = .ok (.goto 4, 3) := by decide +kernel
theorem dL_areAlike_97 : decode cL_areAlike 97 = .ok (.iconst 0, 1) := by decide +kernel
theorem dL_areAlike_98 : decode cL_areAlike 98 = .ok (.istore_n 2, 1) := by decide +kernel
theorem dL_areAlike_99 : decode cL_areAlike 99 = .ok (.iinc 4 1, 3) := by decide +kernel
theorem dL_areAlike_102 : decode cL_areAlike 102 = .ok (.goto (-37), 3) := by decide +kernel
theorem dL_areAlike_105 : decode cL_areAlike 105 = .ok (.iinc 3 1, 3) := by decide +kernel
theorem dL_areAlike_108 : decode cL_areAlike 108 = .ok (.goto (-51), 3) := by decide +kernel
theorem dL_areAlike_111 : decode cL_areAlike 111 = .ok (.iload_n 2, 1) := by decide +kernel
theorem dL_areAlike_112 : decode cL_areAlike 112 = .ok (.ireturn, 1) := by decide +kernel
theorem dL_law_0 : decode cL_law 0 = .ok (.new 16, 3) := by decide +kernel
theorem dL_law_3 : decode cL_law 3 = .ok (.dup, 1) := by decide +kernel
theorem dL_law_4 : decode cL_law 4 = .ok (.invokespecial 93, 3) := by decide +kernel
theorem dL_law_7 : decode cL_law 7 = .ok (.astore_n 1, 1) := by decide +kernel
theorem dL_law_8 : decode cL_law 8 = .ok (.new 16, 3) := by decide +kernel
theorem dL_law_11 : decode cL_law 11 = .ok (.dup, 1) := by decide +kernel
theorem dL_law_12 : decode cL_law 12 = .ok (.invokespecial 93, 3) := by decide +kernel
theorem dL_law_15 : decode cL_law 15 = .ok (.astore_n 2, 1) := by decide +kernel
theorem dL_law_16 : decode cL_law 16 = .ok (.iconst 0, 1) := by decide +kernel
theorem dL_law_17 : decode cL_law 17 = .ok (.istore_n 3, 1) := by decide +kernel
theorem dL_law_18 : decode cL_law 18 = .ok (.iload_n 3, 1) := by decide +kernel
theorem dL_law_19 : decode cL_law 19 = .ok (.bipush 24, 2) := by decide +kernel
theorem dL_law_21 : decode cL_law 21 = .ok (.if_icmp .ge 131, 3) := by decide +kernel
theorem dL_law_24 : decode cL_law 24 = .ok (.aload_n 0, 1) := by decide +kernel
theorem dL_law_25 : decode cL_law 25 = .ok (.iconst 2, 1) := by decide +kernel
theorem dL_law_26 : decode cL_law 26 = .ok (.iload_n 3, 1) := by decide +kernel
theorem dL_law_27 : decode cL_law 27 = .ok (.imul, 1) := by decide +kernel
theorem dL_law_28 : decode cL_law 28 = .ok (.invokestatic 94, 3) := by decide +kernel
theorem dL_law_31 : decode cL_law 31 = .ok (.istore 4, 2) := by decide +kernel
theorem dL_law_33 : decode cL_law 33 = .ok (.aload_n 0, 1) := by decide +kernel
theorem dL_law_34 : decode cL_law 34 = .ok (.iconst 2, 1) := by decide +kernel
theorem dL_law_35 : decode cL_law 35 = .ok (.iload_n 3, 1) := by decide +kernel
theorem dL_law_36 : decode cL_law 36 = .ok (.imul, 1) := by decide +kernel
theorem dL_law_37 : decode cL_law 37 = .ok (.iconst 1, 1) := by decide +kernel
theorem dL_law_38 : decode cL_law 38 = .ok (.iadd, 1) := by decide +kernel
theorem dL_law_39 : decode cL_law 39 = .ok (.invokestatic 94, 3) := by decide +kernel
theorem dL_law_42 : decode cL_law 42 = .ok (.istore 5, 2) := by decide +kernel
theorem dL_law_44 : decode cL_law 44 = .ok (.iload 4, 2) := by decide +kernel
theorem dL_law_46 : decode cL_law 46 = .ok (.bipush 18, 2) := by decide +kernel
theorem dL_law_48 : decode cL_law 48 = .ok (.invokestatic 9, 3) := by decide +kernel
theorem dL_law_51 : decode cL_law 51 = .ok (.bipush 15, 2) := by decide +kernel
theorem dL_law_53 : decode cL_law 53 = .ok (.if_icmp .ne 7, 3) := by decide +kernel
theorem dL_law_56 : decode cL_law 56 = .ok (.iconst 1, 1) := by decide +kernel
theorem dL_law_57 : decode cL_law 57 = .ok (.goto 4, 3) := by decide +kernel
theorem dL_law_60 : decode cL_law 60 = .ok (.iconst 0, 1) := by decide +kernel
theorem dL_law_61 : decode cL_law 61 = .ok (.istore 6, 2) := by decide +kernel
theorem dL_law_63 : decode cL_law 63 = .ok (.iload 6, 2) := by decide +kernel
theorem dL_law_65 : decode cL_law 65 = .ok (.ifCond .ne 22, 3) := by decide +kernel
theorem dL_law_68 : decode cL_law 68 = .ok (.aload_n 1, 1) := by decide +kernel
theorem dL_law_69 : decode cL_law 69 = .ok (.iload 4, 2) := by decide +kernel
theorem dL_law_71 : decode cL_law 71 = .ok (.iload 5, 2) := by decide +kernel
theorem dL_law_73 : decode cL_law 73 = .ok (.invokestatic 98, 3) := by decide +kernel
theorem dL_law_76 : decode cL_law 76 = .ok (.aload_n 2, 1) := by decide +kernel
theorem dL_law_77 : decode cL_law 77 = .ok (.iload 4, 2) := by decide +kernel
theorem dL_law_79 : decode cL_law 79 = .ok (.iload 5, 2) := by decide +kernel
theorem dL_law_81 : decode cL_law 81 = .ok (.invokestatic 98, 3) := by decide +kernel
theorem dL_law_84 : decode cL_law 84 = .ok (.if_icmp .ne 17, 3) := by decide +kernel
theorem dL_law_87 : decode cL_law 87 = .ok (.aload_n 1, 1) := by decide +kernel
theorem dL_law_88 : decode cL_law 88 = .ok (.invokestatic 102, 3) := by decide +kernel
theorem dL_law_91 : decode cL_law 91 = .ok (.ifCond .eq 10, 3) := by decide +kernel
theorem dL_law_94 : decode cL_law 94 = .ok (.aload_n 1, 1) := by decide +kernel
theorem dL_law_95 : decode cL_law 95 = .ok (.invokestatic 106, 3) := by decide +kernel
theorem dL_law_98 : decode cL_law 98 = .ok (.ifCond .ne 5, 3) := by decide +kernel
theorem dL_law_101 : decode cL_law 101 = .ok (.iconst 0, 1) := by decide +kernel
theorem dL_law_102 : decode cL_law 102 = .ok (.ireturn, 1) := by decide +kernel
theorem dL_law_103 : decode cL_law 103 = .ok (.aload_n 1, 1) := by decide +kernel
theorem dL_law_104 : decode cL_law 104 = .ok (.iconst 0, 1) := by decide +kernel
theorem dL_law_105 : decode cL_law 105 = .ok (.invokevirtual 31, 3) := by decide +kernel
theorem dL_law_108 : decode cL_law 108 = .ok (.iconst 1, 1) := by decide +kernel
theorem dL_law_109 : decode cL_law 109 = .ok (.if_icmp .ne 37, 3) := by decide +kernel
theorem dL_law_112 : decode cL_law 112 = .ok (.iload_n 3, 1) := by decide +kernel
theorem dL_law_113 : decode cL_law 113 = .ok (.iconst 2, 1) := by decide +kernel
theorem dL_law_114 : decode cL_law 114 = .ok (.irem, 1) := by decide +kernel
theorem dL_law_115 : decode cL_law 115 = .ok (.iconst 1, 1) := by decide +kernel
theorem dL_law_116 : decode cL_law 116 = .ok (.if_icmp .ne 30, 3) := by decide +kernel
theorem dL_law_119 : decode cL_law 119 = .ok (.aload_n 1, 1) := by decide +kernel
theorem dL_law_120 : decode cL_law 120 = .ok (.iload 5, 2) := by decide +kernel
theorem dL_law_122 : decode cL_law 122 = .ok (.iconst 5, 1) := by decide +kernel
theorem dL_law_123 : decode cL_law 123 = .ok (.ishr, 1) := by decide +kernel
theorem dL_law_124 : decode cL_law 124 = .ok (.iconst 4, 1) := by decide +kernel
theorem dL_law_125 : decode cL_law 125 = .ok (.invokestatic 9, 3) := by decide +kernel
theorem dL_law_128 : decode cL_law 128 = .ok (.iload 5, 2) := by decide +kernel
theorem dL_law_130 : decode cL_law 130 = .ok (.bipush 8, 2) := by decide +kernel
theorem dL_law_132 : decode cL_law 132 = .ok (.ishr, 1) := by decide +kernel
theorem dL_law_133 : decode cL_law 133 = .ok (.bipush 25, 2) := by decide +kernel
theorem dL_law_135 : decode cL_law 135 = .ok (.invokestatic 9, 3) := by decide +kernel
theorem dL_law_138 : decode cL_law 138 = .ok (.invokestatic 109, 3) := by decide +kernel
theorem dL_law_141 : decode cL_law 141 = .ok (.ifCond .ne 5, 3) := by decide +kernel
theorem dL_law_144 : decode cL_law 144 = .ok (.iconst 0, 1) := by decide +kernel
theorem dL_law_145 : decode cL_law 145 = .ok (.ireturn, 1) := by decide +kernel
theorem dL_law_146 : decode cL_law 146 = .ok (.iinc 3 1, 3) := by decide +kernel
theorem dL_law_149 : decode cL_law 149 = .ok (.goto (-131), 3) := by decide +kernel
theorem dL_law_152 : decode cL_law 152 = .ok (.aload_n 1, 1) := by decide +kernel
theorem dL_law_153 : decode cL_law 153 = .ok (.aload_n 2, 1) := by decide +kernel
theorem dL_law_154 : decode cL_law 154 = .ok (.invokestatic 113, 3) := by decide +kernel
theorem dL_law_157 : decode cL_law 157 = .ok (.ireturn, 1) := by decide +kernel
end
section
def lw_tb : List Cond := lw_tbl.filter goodWord
-- an abstract machine over the kit's rows: AtK says that from a world, a place, locals and a stack the frame comes to its end
def isNest : Cond → Bool
  | .methodLinkNest .. => true
  | .fieldLinkNest .. => true
  | _ => false
def lw_ns : List Cond := lw_tbl.filter isNest
theorem ns_on {w : Cond} (h : w ∈ lw_ns) : w.onTables = true := by
  have h1 := (List.mem_filter.mp h).2
  cases w <;> first | rfl | cases h1
theorem ns_warm {w : Cond} (h : w ∈ lw_ns) {s U : State} (hW : s.WarmedH U.vm) (hZ : va_Nw w s) : va_Nw w U := by
  have h1 := (List.mem_filter.mp h).2
  cases w <;> first | exact va_Nw.warmM hW hZ | exact va_Nw.warmF hW hZ | cases h1
theorem lw_un {w : Cond} (h : w ∈ lw_tbl) (g : isNest w = true) : w ∈ lw_ns := List.mem_filter.mpr ⟨h, g⟩
abbrev GZ : Type := va_G × ClassId × ClassId × ClassId
def Kx (Z : GZ) (s : State) : Prop := va_K Z.1 vwCl [(Z.2.1, .int), (Z.2.2.1, .object RX5), (Z.2.2.2, .object RX1)] s ∧ ∀ w ∈ lw_ns, va_Nw w s
abbrev CX : Type := Program × Launch × Env × State × MethodId × Array Value × List Frame × Method × Code × (State → Prop) × (Nat → Prop) × Heap
def okC (p : Program) (s : State) (m : MethodId) (args : Array Value) (c : Code) (Z : GZ) (cc : ByteArray) (own : String) (nL : Nat) : Prop := p.tables.exec = Jvm.exec ∧ c.code = cc ∧ (∀ w ∈ lw_tb, w.before args s = true) ∧ s.vm.findClass own = some m.cls ∧ Kx Z s ∧ c.maxLocals = nL
def AtK (X : CX) (Z : GZ) (R : Room) (cc : ByteArray) (own : String) (nL kc ks : Nat) (ws : va_W) (pc : Nat) (lv : List (Nat × Value)) (st : List Value) : Prop := match X with
  | (p, l, e, s, m, args, below, meth, c, Q, A, H0) => okC p s m args c Z cc own nL → ∀ (H : Heap) (locs : List Loc) (ls : Array Slot), va_P Z.1 vwCl ws H → va_D A ws → va_S A H0 H locs → lv_has ls nL lv → W p l e R s m args below meth c H locs kc ks Q (F0 m pc ls st)
def jrem (x y : Int32) : Int32 := x - x / y * y
def xset : va_W → List Nat → va_W → va_W
  | ws, i :: is, c :: cs => xset (ws.set i c) is cs
  | ws, _, _ => ws
def xA (ws : va_W) : Nat → Prop := fun q => ∃ (k : Nat) (e : va_E), ws[k]? = some (q, e)
def xPre (Z : GZ) (ws : va_W) : State → Prop := fun U => va_P Z.1 vwCl ws U.heap ∧ Kx Z U ∧ va_D (fun _ => True) ws
def xQ (Z : GZ) (v : Option Value) (ws' : va_W) (A : Nat → Prop) : Array Value → State → Outcome → State → Prop := fun _ st oc t => (oc = .returned v ∧ va_P Z.1 vwCl ws' t.heap) ∧ va_F A st t
abbrev wsY (y : MethodName) (c : ByteArray) (n : Nat) (ret : Option FieldType) : List Cond := .code y c n ret :: lw_tb
/-- a method's contract: from the cells ws it answers v and leaves the cells ws' (at the same addresses), nothing else changed, nothing made -/
def Con (Z : GZ) (l : Launch) (y : MethodName) (c : ByteArray) (n : Nat) (ret : Option FieldType) (rm : Room) (av : List Value) (ws : va_W) (v : Option Value) (ws' : va_W) : Prop := Met l y (wsY y c n ret) rm (va_Pc av (xPre Z ws)) (xQ Z v ws' (xA ws)) 0 0 (xA ws)
theorem og {α : Type} {c : Prop} [Decidable c] {a : Option α} {o : α} (h : (if c then none else a) = some o) : ¬ c ∧ a = some o := by
  by_cases hc : c
  · rw [if_pos hc] at h; cases h
  · rw [if_neg hc] at h; exact ⟨hc, h⟩
theorem ob {α β : Type} {x : Option α} {k : α → Option β} {o : β} (h : x.bind k = some o) : ∃ a, x = some a ∧ k a = some o := by
  cases x with
  | none => cases h
  | some a => exact ⟨a, rfl, h⟩
theorem lw_up {w : Cond} (h : w ∈ lw_tbl) (g : goodWord w = true) : w ∈ lw_tb := List.mem_filter.mpr ⟨h, g⟩
theorem lw_lays {C : String} {T : u_T} {N : Nat} (h : ∀ w ∈ u_ws C T N, w ∈ lw_tbl) : ∀ w ∈ u_ws C T N, w ∈ lw_tb := by
  intro w hw
  refine lw_up (h w hw) ?_
  obtain ⟨k, -, rfl⟩ := List.mem_map.mp hw
  unfold u_lay
  split <;> rfl
theorem kX0 : ∀ w ∈ wsX00, w ∈ lw_tb := lw_lays inX0
theorem kX1 : ∀ w ∈ wsX10, w ∈ lw_tb := lw_lays inX1
theorem kX2 : ∀ w ∈ wsX20, w ∈ lw_tb := lw_lays inX2
theorem kX3 : ∀ w ∈ wsX30, w ∈ lw_tb := lw_lays inX3
theorem kX4 : ∀ w ∈ wsX40, w ∈ lw_tb := lw_lays inX4
theorem kX5 : ∀ w ∈ wsX50, w ∈ lw_tb := lw_lays inX5
theorem kX6 : ∀ w ∈ wsX60, w ∈ lw_tb := lw_lays inX6
theorem lw_GoodIn {y : MethodName} {c : ByteArray} {n : Nat} {ret : Option FieldType} (h : Cond.code y c n ret ∈ lw_tb) : GoodIn lw_tb (wsY y c n ret) := by
  intro w hw
  have hm : w ∈ lw_tb := by
    rcases List.mem_cons.mp hw with rfl | hw
    · exact h
    · exact hw
  exact ⟨hm, good_of_word (List.mem_filter.mp hm).2⟩
section KT1
variable {p : Program} {l : Launch} {e : Env} {R : Room} {s : State} {m : MethodId} {args : Array Value} {below : List Frame} {meth : Method} {c : Code} {H : Heap} {locs : List Loc} {kc ks : Nat} {Q : State → Prop} {Z : GZ} {A : Nat → Prop} {H0 : Heap}
theorem xD_dom {B : Nat → Prop} {ws ws' : va_W} (h : va_D B ws) (hd : ws'.map Prod.fst = ws.map Prod.fst) : va_D B ws' := by
  have key : ∀ (k : Nat) (q : Nat × va_E), ws'[k]? = some q → ∃ q', ws[k]? = some q' ∧ q'.1 = q.1 := by
    intro k q hk
    have h1 : (ws'.map Prod.fst)[k]? = some q.1 := by rw [List.getElem?_map, hk]; rfl
    rw [hd, List.getElem?_map] at h1
    cases h2 : ws[k]? with
    | none => rw [h2] at h1; cases h1
    | some q' => rw [h2] at h1; exact ⟨q', rfl, Option.some.inj h1⟩
  refine ⟨fun i j p q hi hj hpq => ?_, fun k q hk => ?_⟩
  · obtain ⟨p', hp1, hp2⟩ := key i p hi
    obtain ⟨q', hq1, hq2⟩ := key j q hj
    exact h.1 i j p' q' hp1 hq1 (by rw [hp2, hq2, hpq])
  · obtain ⟨q', hq1, hq2⟩ := key k q hk
    rw [← hq2]
    exact h.2 k q' hq1
theorem xset_get : ∀ (is : List Nat) (cs ws : va_W) (k : Nat) (q : Nat × va_E), is.length = cs.length → (xset ws is cs)[k]? = some q → q ∈ cs ∨ (k ∉ is ∧ ws[k]? = some q)
  | [], [], ws, k, q, _, h => Or.inr ⟨by simp, h⟩
  | [], _ :: _, ws, k, q, hl, h => by simp at hl
  | _ :: _, [], ws, k, q, hl, h => by simp at hl
  | i :: is, c :: cs, ws, k, q, hl, h => by
    rcases xset_get is cs (ws.set i c) k q (by simpa using hl) h with h | ⟨h1, h2⟩
    · exact Or.inl (List.mem_cons_of_mem _ h)
    · by_cases hk : k = i
      · subst hk
        rw [List.getElem?_set] at h2
        simp only [if_true] at h2
        split at h2
        · cases h2; exact Or.inl List.mem_cons_self
        · cases h2
      · rw [List.getElem?_set_ne (fun h => hk h.symm)] at h2
        exact Or.inr ⟨by simp [hk, h1], h2⟩
theorem x_in {ws c0 : va_W} {is : List Nat} (h0 : is.map (fun i => ws[i]?) = c0.map some) {j : Nat} {q : Nat × va_E} (h : c0[j]? = some q) : ∃ i, is[j]? = some i ∧ ws[i]? = some q := va_in_of is h0 h
theorem xD_iff {B : Nat → Prop} {ws : va_W} : va_D B ws ↔ (ws.map Prod.fst).Nodup ∧ ∀ q ∈ ws, B q.1 := by
  constructor
  · intro h
    refine ⟨?_, fun q hq => ?_⟩
    · rw [List.Nodup, List.pairwise_iff_getElem]
      intro i j hi hj hij he
      simp only [List.length_map] at hi hj
      simp only [List.getElem_map] at he
      have := h.1 i j ws[i] ws[j] (List.getElem?_eq_getElem hi) (List.getElem?_eq_getElem hj) he
      omega
    · obtain ⟨k, hk⟩ := List.getElem?_of_mem hq
      exact h.2 k q hk
  · rintro ⟨h1, h2⟩
    refine ⟨fun i j p q hi hj hpq => ?_, fun k q hk => h2 q (List.mem_of_getElem? hk)⟩
    rw [List.Nodup, List.pairwise_iff_getElem] at h1
    obtain ⟨hi1, hi2⟩ := List.getElem?_eq_some_iff.mp hi
    obtain ⟨hj1, hj2⟩ := List.getElem?_eq_some_iff.mp hj
    rcases Nat.lt_trichotomy i j with h | h | h
    · refine absurd ?_ (h1 i j (by simpa using hi1) (by simpa using hj1) h)
      simp [hi2, hj2, hpq]
    · exact h
    · refine absurd ?_ (h1 j i (by simpa using hj1) (by simpa using hi1) h)
      simp [hi2, hj2, hpq]
theorem xA_mem {ws : va_W} {q : Nat} : xA ws q ↔ q ∈ ws.map Prod.fst := by
  constructor
  · rintro ⟨k, e, hk⟩
    exact List.mem_map.mpr ⟨(q, e), List.mem_of_getElem? hk, rfl⟩
  · intro h
    obtain ⟨⟨a, e⟩, h1, rfl⟩ := List.mem_map.mp h
    obtain ⟨k, hk⟩ := List.getElem?_of_mem h1
    exact ⟨k, e, hk⟩
/-- the callee's cells c0 stand in the caller's world ws; behind the call, with c1 in their place, it is ws' -/
def xPk (ws ws' c0 c1 : va_W) : Prop := ∀ B : Nat → Prop, va_D B ws → va_D (fun _ => True) c0 ∧ va_D B ws' ∧ (∀ q ∈ c0, q ∈ ws) ∧ (∀ q ∈ ws', q ∈ c1 ∨ (q ∈ ws ∧ ¬ xA c0 q.1))
theorem xPk.idx {ws ws' c0 c1 : va_W} (is : List Nat) (h0 : is.map (fun i => ws[i]?) = c0.map some) (hnd : va_nd is = true) (hlen : c1.length = c0.length) (hset : xset ws is c1 = ws') (hdom : ws'.map Prod.fst = ws.map Prod.fst) : xPk ws ws' c0 c1 := by
  intro B hD
  refine ⟨(hD.sub is hnd h0).weaken (fun _ _ _ _ => trivial), xD_dom hD hdom, fun q hq => ?_, fun q hq => ?_⟩
  · obtain ⟨j, hj⟩ := List.getElem?_of_mem hq
    obtain ⟨i, -, hi⟩ := x_in h0 hj
    exact List.mem_of_getElem? hi
  · rw [← hset] at hq
    obtain ⟨k, hk⟩ := List.getElem?_of_mem hq
    rcases xset_get is c1 ws k q (by have := congrArg List.length h0; simp at this; omega) hk with h | ⟨h1, h2⟩
    · exact Or.inl h
    · refine Or.inr ⟨List.mem_of_getElem? h2, ?_⟩
      rintro ⟨j, e0, hj⟩
      obtain ⟨i, hi1, hi2⟩ := x_in h0 hj
      have := hD.1 k i _ _ h2 hi2 rfl
      subst this
      exact h1 (List.mem_of_getElem? hi1)
theorem xPk.all {ws ws' : va_W} (hdom : ws'.map Prod.fst = ws.map Prod.fst) : xPk ws ws' ws ws' := fun B hD => ⟨hD.weaken (fun _ _ _ _ => trivial), xD_dom hD hdom, fun _ h => h, fun _ h => Or.inl h⟩
theorem xPk.none {ws : va_W} : xPk ws ws [] [] := fun B hD => ⟨⟨fun i j p q h => by simp at h, fun k q h => by simp at h⟩, hD, fun q h => absurd h List.not_mem_nil, fun q h => Or.inr ⟨h, fun ⟨k, e, hk⟩ => by simp at hk⟩⟩
theorem xPk.seg2 {ws ws' : va_W} (A a0 a1 B b0 b1 C : va_W) (hw : ws = A ++ (a0 ++ (B ++ (b0 ++ C)))) (hw' : ws' = A ++ (a1 ++ (B ++ (b1 ++ C)))) (ha : a1.map Prod.fst = a0.map Prod.fst) (hb : b1.map Prod.fst = b0.map Prod.fst) : xPk ws ws' (a0 ++ b0) (a1 ++ b1) := by
  subst hw hw'
  intro P hD
  have hd : va_D P (A ++ (a1 ++ (B ++ (b1 ++ C)))) := xD_dom hD (by simp only [List.map_append, ha, hb])
  have hN := (xD_iff.mp hD).1
  simp only [List.map_append, List.nodup_append, List.mem_append] at hN
  refine ⟨xD_iff.mpr ⟨?_, fun _ _ => trivial⟩, hd, fun q hq => ?_, fun q hq => ?_⟩
  · simp only [List.map_append, List.nodup_append]
    exact ⟨hN.2.1.1, hN.2.1.2.1.2.1.1, fun x hx y hy => hN.2.1.2.2 x hx y (Or.inr (Or.inl hy))⟩
  · simp only [List.mem_append] at hq ⊢
    rcases hq with h | h
    · exact Or.inr (Or.inl h)
    · exact Or.inr (Or.inr (Or.inr (Or.inl h)))
  · simp only [List.mem_append] at hq ⊢
    rcases hq with h | h | h | h | h
    · refine Or.inr ⟨Or.inl h, fun hx => ?_⟩
      have hq1 : q.1 ∈ A.map Prod.fst := List.mem_map.mpr ⟨q, h, rfl⟩
      rw [xA_mem, List.map_append, List.mem_append] at hx
      rcases hx with hx | hx
      · exact hN.2.2 _ hq1 _ (Or.inl hx) rfl
      · exact hN.2.2 _ hq1 _ (Or.inr (Or.inr (Or.inl hx))) rfl
    · exact Or.inl (Or.inl h)
    · refine Or.inr ⟨Or.inr (Or.inr (Or.inl h)), fun hx => ?_⟩
      have hq1 : q.1 ∈ B.map Prod.fst := List.mem_map.mpr ⟨q, h, rfl⟩
      rw [xA_mem, List.map_append, List.mem_append] at hx
      rcases hx with hx | hx
      · exact hN.2.1.2.2 _ hx _ (Or.inl hq1) rfl
      · exact hN.2.1.2.1.2.2 _ hq1 _ (Or.inl hx) rfl
    · exact Or.inl (Or.inr h)
    · refine Or.inr ⟨Or.inr (Or.inr (Or.inr (Or.inr h))), fun hx => ?_⟩
      have hq1 : q.1 ∈ C.map Prod.fst := List.mem_map.mpr ⟨q, h, rfl⟩
      rw [xA_mem, List.map_append, List.mem_append] at hx
      rcases hx with hx | hx
      · exact hN.2.1.2.2 _ hx _ (Or.inr (Or.inr hq1)) rfl
      · exact hN.2.1.2.1.2.1.2.2 _ hx _ hq1 rfl
theorem xPk.perm {ws ws' c0 c1 d0 d1 : va_W} (h : xPk ws ws' c0 c1) (h0 : ∀ q, q ∈ d0 ↔ q ∈ c0) (h1 : ∀ q, q ∈ d1 ↔ q ∈ c1) (hn : (c0.map Prod.fst).Nodup → (d0.map Prod.fst).Nodup) : xPk ws ws' d0 d1 := by
  intro B hD
  obtain ⟨k1, k2, k3, k4⟩ := h B hD
  refine ⟨xD_iff.mpr ⟨hn (xD_iff.mp k1).1, fun _ _ => trivial⟩, k2, fun q hq => k3 q ((h0 q).mp hq), fun q hq => ?_⟩
  rcases k4 q hq with h | ⟨h, h'⟩
  · exact Or.inl ((h1 q).mpr h)
  · refine Or.inr ⟨h, fun hx => h' ?_⟩
    rw [xA_mem] at hx ⊢
    obtain ⟨r, hr, he⟩ := List.mem_map.mp hx
    exact List.mem_map.mpr ⟨r, (h0 r).mp hr, he⟩
theorem xPk.seg2r {ws ws' : va_W} (A a0 a1 B b0 b1 C : va_W) (hw : ws = A ++ (a0 ++ (B ++ (b0 ++ C)))) (hw' : ws' = A ++ (a1 ++ (B ++ (b1 ++ C)))) (ha : a1.map Prod.fst = a0.map Prod.fst) (hb : b1.map Prod.fst = b0.map Prod.fst) : xPk ws ws' (b0 ++ a0) (b1 ++ a1) := by
  refine (xPk.seg2 A a0 a1 B b0 b1 C hw hw' ha hb).perm (fun q => by simp only [List.mem_append]; exact Or.comm) (fun q => by simp only [List.mem_append]; exact Or.comm) (fun h => ?_)
  simp only [List.map_append, List.nodup_append] at h ⊢
  exact ⟨h.2.1, h.1, fun x hx y hy e => h.2.2 y hy x hx e.symm⟩
theorem xPk.seg1 {ws ws' : va_W} (A a0 a1 C : va_W) (hw : ws = A ++ (a0 ++ C)) (hw' : ws' = A ++ (a1 ++ C)) (ha : a1.map Prod.fst = a0.map Prod.fst) : xPk ws ws' a0 a1 := by
  have h := xPk.seg2 (ws := ws) (ws' := ws') A a0 a1 [] [] [] C (by rw [hw]; rfl) (by rw [hw']; rfl) ha rfl
  rw [List.append_nil, List.append_nil] at h
  exact h
/-- a call that makes nothing: the callee's cells are cells of the caller's world -/
theorem x_call {pc : Nat} {ls : Array Slot} {st0 rest : List Value} {a : Array Value} {v : Option Value} {ws ws' c0 c1 : va_W}
    (hr : va_Run p l e R s m args below meth c H locs kc ks 0 0 (F0 m pc ls st0) rest (xQ Z v c1 (xA c0) a) (xA c0)) (hP : va_P Z.1 vwCl ws H) (hD : va_D A ws) (hS : va_S A H0 H locs) (hpk : xPk ws ws' c0 c1)
    (kk : ∀ (H1 : Heap) (locs1 : List Loc), va_P Z.1 vwCl ws' H1 → va_D A ws' → va_S A H0 H1 locs1 → W p l e R s m args below meth c H1 locs1 kc ks Q (F0 m (pc + 3) ls (v.toList ++ rest))) : W p l e R s m args below meth c H locs kc ks Q (F0 m pc ls st0) := by
  intro T hT X
  obtain ⟨v', st₀, t, T', L, hh, X', hL, e1, e2, ⟨⟨hv, hb⟩, hz, hk⟩, st⟩ := hr T hT X
  cases hv
  rw [hh] at hz hk
  obtain ⟨-, hD', hin, hnew⟩ := hpk A hD
  have hAin : ∀ q : Nat, xA c0 q → A q := by
    rintro q ⟨j, e0, hj⟩
    exact (xD_iff.mp hD).2 _ (hin _ (List.mem_of_getElem? hj))
  have hP' : va_P Z.1 vwCl ws' t.heap := by
    intro k q hkq
    rcases hnew q (List.mem_of_getElem? hkq) with h | ⟨h1, h2⟩
    · obtain ⟨j, hj⟩ := List.getElem?_of_mem h
      exact hb j q hj
    · obtain ⟨j, hj⟩ := List.getElem?_of_mem h1
      exact (hP j q hj).kept (hk q.1 (hP j q hj).lt h2)
  obtain ⟨t2, a1, b1⟩ := kk t.heap (locs ++ L) hP' hD' ⟨Nat.le_trans hS.1 hz, fun q h1 h2 => by rw [hk q (Nat.lt_of_lt_of_le h1 hS.1) (fun z => h2 (hAin q z))]; exact hS.2.1 q h1 h2, fun q hq => by
      rcases List.mem_append.mp hq with h | h
      · exact hS.2.2 q h
      · exact hAin _ (hL q h)⟩ T' e1 X'
  exact ⟨t2, st t2 a1, b1⟩
theorem x_blind (av : List Value) (ws : va_W) : FrameBlind (va_Pc av (xPre Z ws)) := fun a U g mk q => by
  obtain ⟨q0, qP, qK, qD⟩ := q
  exact ⟨q0, qP, ⟨va_K.moved (u := U) (U := U.calling g mk a) (Vm.Alike.refl U.vm) qK.1, fun w hw => va_Nw.same (ns_on hw) (u := U) (U := U.calling g mk a) rfl (qK.2 w hw)⟩, qD⟩
theorem x_pre {av : List Value} {ws ws' c0 c1 : va_W} (hK : Kx Z s) (hP : va_P Z.1 vwCl ws H) (hD : va_D A ws) (hpk : xPk ws ws' c0 c1) : ∀ U : State, U.heap = H → s.WarmedH U.vm → va_Pc av (xPre Z c0) av.toArray U := by
  intro U hU hW
  obtain ⟨h1, -, hin, -⟩ := hpk A hD
  refine ⟨rfl, ?_, ⟨va_K.moved hW.alike hK.1, fun w hw => ns_warm hw hW (hK.2 w hw)⟩, h1⟩
  rw [hU]
  intro j q hj
  obtain ⟨k, hk⟩ := List.getElem?_of_mem (hin q (List.mem_of_getElem? hj))
  exact hP k q hk
end KT1
end
section
abbrev mVo (y : MethodName) (bytes : ByteArray) (maxL n : Nat) (ret : Option FieldType) : Prop := (.instanceMethod y : Cond) ∈ lw_tb ∧ Cond.selects y.cls y y ∈ lw_tb ∧ Cond.initialized y.cls ∈ lw_tb ∧ Cond.code y bytes maxL ret ∈ lw_tb ∧ (y.cls ≠ "java/lang/invoke/MethodHandle" ∧ y.cls ≠ "java/lang/invoke/VarHandle" ∧ (parseMethodDescriptor y.desc).map (fun d => d.parameters.length) = some n)
abbrev mSo (y : MethodName) (bytes : ByteArray) (maxL n : Nat) (ret : Option FieldType) : Prop := (.static y : Cond) ∈ lw_tb ∧ Cond.initialized y.cls ∈ lw_tb ∧ Cond.code y bytes maxL ret ∈ lw_tb ∧ (y.cls ≠ "java/lang/invoke/MethodHandle" ∧ y.cls ≠ "java/lang/invoke/VarHandle" ∧ (parseMethodDescriptor y.desc).map (fun d => d.parameters.length) = some n)
section KT2
variable {X : CX} {Z : GZ} {R : Room} {cc : ByteArray} {own : String} {nL kc ks : Nat} {ws : va_W} {pc : Nat} {lv : List (Nat × Value)} {st : List Value}
theorem r_iconst {n : Int} {v : Int32} (d : decode cc pc = .ok (.iconst n, 1)) (hv : Int32.ofInt n = v) (kk : AtK X Z R cc own nL kc ks ws (pc + 1) lv (.int v :: st)) : AtK X Z R cc own nL kc ks ws pc lv (st) := by
  obtain ⟨p, l, e, s, m, args, below, meth, c, Q, A, H0⟩ := X
  intro hok H locs ls hP hD hS hl
  obtain ⟨hx, hb, hts, hown, ⟨hK, hN⟩, hml⟩ := id hok
  exact lv_iconst hx hb d hv (kk hok H locs ls hP hD hS hl)
theorem r_bipush {n : Int} {v : Int32} (d : decode cc pc = .ok (.bipush n, 2)) (hv : (Int8.ofInt n).toInt32 = v) (kk : AtK X Z R cc own nL kc ks ws (pc + 2) lv (.int v :: st)) : AtK X Z R cc own nL kc ks ws pc lv (st) := by
  obtain ⟨p, l, e, s, m, args, below, meth, c, Q, A, H0⟩ := X
  intro hok H locs ls hP hD hS hl
  obtain ⟨hx, hb, hts, hown, ⟨hK, hN⟩, hml⟩ := id hok
  exact lv_bipush hx hb d hv (kk hok H locs ls hP hD hS hl)
theorem r_sipush {n : Int} {v : Int32} (d : decode cc pc = .ok (.sipush n, 3)) (hv : (Int16.ofInt n).toInt32 = v) (kk : AtK X Z R cc own nL kc ks ws (pc + 3) lv (.int v :: st)) : AtK X Z R cc own nL kc ks ws pc lv (st) := by
  obtain ⟨p, l, e, s, m, args, below, meth, c, Q, A, H0⟩ := X
  intro hok H locs ls hP hD hS hl
  obtain ⟨hx, hb, hts, hown, ⟨hK, hN⟩, hml⟩ := id hok
  exact lv_sipush hx hb d hv (kk hok H locs ls hP hD hS hl)
theorem r_ldc {ix : Nat} {v : Int32} (q : Jvm.Cond.constant own ix v ∈ lw_tb) (d : decode cc pc = .ok (.ldc ix, 2)) (kk : AtK X Z R cc own nL kc ks ws (pc + 2) lv (.int v :: st)) : AtK X Z R cc own nL kc ks ws pc lv (st) := by
  obtain ⟨p, l, e, s, m, args, below, meth, c, Q, A, H0⟩ := X
  intro hok H locs ls hP hD hS hl
  obtain ⟨hx, hb, hts, hown, ⟨hK, hN⟩, hml⟩ := id hok
  exact lv_ldc hx hb hown (hts _ q) d (kk hok H locs ls hP hD hS hl)
theorem r_iload_n {k : Fin 4} {x : Int32} (d : decode cc pc = .ok (.iload_n k, 1)) (j : Nat) (hj : lv[j]? = some ((k : Nat), .int x)) (kk : AtK X Z R cc own nL kc ks ws (pc + 1) lv (.int x :: st)) : AtK X Z R cc own nL kc ks ws pc lv (st) := by
  obtain ⟨p, l, e, s, m, args, below, meth, c, Q, A, H0⟩ := X
  intro hok H locs ls hP hD hS hl
  obtain ⟨hx, hb, hts, hown, ⟨hK, hN⟩, hml⟩ := id hok
  exact lv_iload_n hx hb d rfl (lv_at hl j hj) (kk hok H locs ls hP hD hS hl)
theorem r_iload {i : Nat} {x : Int32} (d : decode cc pc = .ok (.iload i, 2)) (j : Nat) (hj : lv[j]? = some (i, .int x)) (kk : AtK X Z R cc own nL kc ks ws (pc + 2) lv (.int x :: st)) : AtK X Z R cc own nL kc ks ws pc lv (st) := by
  obtain ⟨p, l, e, s, m, args, below, meth, c, Q, A, H0⟩ := X
  intro hok H locs ls hP hD hS hl
  obtain ⟨hx, hb, hts, hown, ⟨hK, hN⟩, hml⟩ := id hok
  exact lv_iload hx hb d (lv_at hl j hj) (kk hok H locs ls hP hD hS hl)
theorem r_aload_n {k : Fin 4} {x : Nat} (d : decode cc pc = .ok (.aload_n k, 1)) (j : Nat) (hj : lv[j]? = some ((k : Nat), .ref x)) (kk : AtK X Z R cc own nL kc ks ws (pc + 1) lv (.ref x :: st)) : AtK X Z R cc own nL kc ks ws pc lv (st) := by
  obtain ⟨p, l, e, s, m, args, below, meth, c, Q, A, H0⟩ := X
  intro hok H locs ls hP hD hS hl
  obtain ⟨hx, hb, hts, hown, ⟨hK, hN⟩, hml⟩ := id hok
  exact lv_aload_n hx hb d rfl (lv_at hl j hj) (kk hok H locs ls hP hD hS hl)
theorem r_aload {i : Nat} {x : Nat} (d : decode cc pc = .ok (.aload i, 2)) (j : Nat) (hj : lv[j]? = some (i, .ref x)) (kk : AtK X Z R cc own nL kc ks ws (pc + 2) lv (.ref x :: st)) : AtK X Z R cc own nL kc ks ws pc lv (st) := by
  obtain ⟨p, l, e, s, m, args, below, meth, c, Q, A, H0⟩ := X
  intro hok H locs ls hP hD hS hl
  obtain ⟨hx, hb, hts, hown, ⟨hK, hN⟩, hml⟩ := id hok
  exact lv_aload hx hb d (lv_at hl j hj) (kk hok H locs ls hP hD hS hl)
theorem r_aload_nN {k : Fin 4} (d : decode cc pc = .ok (.aload_n k, 1)) (j : Nat) (hj : lv[j]? = some ((k : Nat), .null)) (kk : AtK X Z R cc own nL kc ks ws (pc + 1) lv (.null :: st)) : AtK X Z R cc own nL kc ks ws pc lv (st) := by
  obtain ⟨p, l, e, s, m, args, below, meth, c, Q, A, H0⟩ := X
  intro hok H locs ls hP hD hS hl
  obtain ⟨hx, hb, hts, hown, ⟨hK, hN⟩, hml⟩ := id hok
  exact lv_aload_nN hx hb d rfl (lv_at hl j hj) (kk hok H locs ls hP hD hS hl)
theorem r_istore_n {k : Fin 4} {x : Int32} {lv' : List (Nat × Value)} (d : decode cc pc = .ok (.istore_n k, 1)) (hn : (k : Nat) < nL) (hl9 : ((k : Nat), Value.int x) :: lv.filter (fun q => !(q.1 == (k : Nat)) && !(q.1 + 1 == (k : Nat) && q.2.category == 2)) = lv') (kk : AtK X Z R cc own nL kc ks ws (pc + 1) lv' st) : AtK X Z R cc own nL kc ks ws pc lv (.int x :: st) := by
  obtain ⟨p, l, e, s, m, args, below, meth, c, Q, A, H0⟩ := X
  intro hok H locs ls hP hD hS hl
  obtain ⟨hx, hb, hts, hown, ⟨hK, hN⟩, hml⟩ := id hok
  exact lv_istore_n hx hb d rfl hl hn hl9 (fun ls2 hl2 => kk hok H locs ls2 hP hD hS hl2)
theorem r_istore {i : Nat} {x : Int32} {lv' : List (Nat × Value)} (d : decode cc pc = .ok (.istore i, 2)) (hn : i < nL) (hl9 : (i, Value.int x) :: lv.filter (fun q => !(q.1 == i) && !(q.1 + 1 == i && q.2.category == 2)) = lv') (kk : AtK X Z R cc own nL kc ks ws (pc + 2) lv' st) : AtK X Z R cc own nL kc ks ws pc lv (.int x :: st) := by
  obtain ⟨p, l, e, s, m, args, below, meth, c, Q, A, H0⟩ := X
  intro hok H locs ls hP hD hS hl
  obtain ⟨hx, hb, hts, hown, ⟨hK, hN⟩, hml⟩ := id hok
  exact lv_istore hx hb d  hl hn hl9 (fun ls2 hl2 => kk hok H locs ls2 hP hD hS hl2)
theorem r_astore_n {k : Fin 4} {x : Nat} {lv' : List (Nat × Value)} (d : decode cc pc = .ok (.astore_n k, 1)) (hn : (k : Nat) < nL) (hl9 : ((k : Nat), Value.ref x) :: lv.filter (fun q => !(q.1 == (k : Nat)) && !(q.1 + 1 == (k : Nat) && q.2.category == 2)) = lv') (kk : AtK X Z R cc own nL kc ks ws (pc + 1) lv' st) : AtK X Z R cc own nL kc ks ws pc lv (.ref x :: st) := by
  obtain ⟨p, l, e, s, m, args, below, meth, c, Q, A, H0⟩ := X
  intro hok H locs ls hP hD hS hl
  obtain ⟨hx, hb, hts, hown, ⟨hK, hN⟩, hml⟩ := id hok
  exact lv_astore_n hx hb d rfl hl hn hl9 (fun ls2 hl2 => kk hok H locs ls2 hP hD hS hl2)
theorem r_astore {i : Nat} {x : Nat} {lv' : List (Nat × Value)} (d : decode cc pc = .ok (.astore i, 2)) (hn : i < nL) (hl9 : (i, Value.ref x) :: lv.filter (fun q => !(q.1 == i) && !(q.1 + 1 == i && q.2.category == 2)) = lv') (kk : AtK X Z R cc own nL kc ks ws (pc + 2) lv' st) : AtK X Z R cc own nL kc ks ws pc lv (.ref x :: st) := by
  obtain ⟨p, l, e, s, m, args, below, meth, c, Q, A, H0⟩ := X
  intro hok H locs ls hP hD hS hl
  obtain ⟨hx, hb, hts, hown, ⟨hK, hN⟩, hml⟩ := id hok
  exact lv_astore hx hb d  hl hn hl9 (fun ls2 hl2 => kk hok H locs ls2 hP hD hS hl2)
theorem r_astore_nN {k : Fin 4} {lv' : List (Nat × Value)} (d : decode cc pc = .ok (.astore_n k, 1)) (hn : (k : Nat) < nL) (hl9 : ((k : Nat), Value.null) :: lv.filter (fun q => !(q.1 == (k : Nat)) && !(q.1 + 1 == (k : Nat) && q.2.category == 2)) = lv') (kk : AtK X Z R cc own nL kc ks ws (pc + 1) lv' st) : AtK X Z R cc own nL kc ks ws pc lv (.null :: st) := by
  obtain ⟨p, l, e, s, m, args, below, meth, c, Q, A, H0⟩ := X
  intro hok H locs ls hP hD hS hl
  obtain ⟨hx, hb, hts, hown, ⟨hK, hN⟩, hml⟩ := id hok
  exact lv_astore_nN hx hb d rfl hl hn hl9 (fun ls2 hl2 => kk hok H locs ls2 hP hD hS hl2)
theorem r_iinc {i k : Nat} {n : Int} {x v : Int32} {lv' : List (Nat × Value)} (d : decode cc pc = .ok (.iinc i n, 3)) (hk : lv[k]? = some (i, .int x)) (hv : x + Int32.ofInt n = v) (hn : i < nL) (hl9 : (i, Value.int v) :: lv.filter (fun q => !(q.1 == i) && !(q.1 + 1 == i && q.2.category == 2)) = lv') (kk : AtK X Z R cc own nL kc ks ws (pc + 3) lv' st) : AtK X Z R cc own nL kc ks ws pc lv st := by
  obtain ⟨p, l, e, s, m, args, below, meth, c, Q, A, H0⟩ := X
  intro hok H locs ls hP hD hS hl
  obtain ⟨hx, hb, hts, hown, ⟨hK, hN⟩, hml⟩ := id hok
  exact lv_iinc hx hb d hl hk hv hn hl9 (fun ls2 hl2 => kk hok H locs ls2 hP hD hS hl2)
theorem r_iadd {x y : Int32} (d : decode cc pc = .ok (.iadd, 1)) (kk : AtK X Z R cc own nL kc ks ws (pc + 1) lv (.int (x + y) :: st)) : AtK X Z R cc own nL kc ks ws pc lv (.int y :: .int x :: st) := by
  obtain ⟨p, l, e, s, m, args, below, meth, c, Q, A, H0⟩ := X
  intro hok H locs ls hP hD hS hl
  obtain ⟨hx, hb, hts, hown, ⟨hK, hN⟩, hml⟩ := id hok
  exact lv_iadd hx hb d (kk hok H locs ls hP hD hS hl)
theorem r_isub {x y : Int32} (d : decode cc pc = .ok (.isub, 1)) (kk : AtK X Z R cc own nL kc ks ws (pc + 1) lv (.int (x - y) :: st)) : AtK X Z R cc own nL kc ks ws pc lv (.int y :: .int x :: st) := by
  obtain ⟨p, l, e, s, m, args, below, meth, c, Q, A, H0⟩ := X
  intro hok H locs ls hP hD hS hl
  obtain ⟨hx, hb, hts, hown, ⟨hK, hN⟩, hml⟩ := id hok
  exact lv_isub hx hb d (kk hok H locs ls hP hD hS hl)
theorem r_imul {x y : Int32} (d : decode cc pc = .ok (.imul, 1)) (kk : AtK X Z R cc own nL kc ks ws (pc + 1) lv (.int (x * y) :: st)) : AtK X Z R cc own nL kc ks ws pc lv (.int y :: .int x :: st) := by
  obtain ⟨p, l, e, s, m, args, below, meth, c, Q, A, H0⟩ := X
  intro hok H locs ls hP hD hS hl
  obtain ⟨hx, hb, hts, hown, ⟨hK, hN⟩, hml⟩ := id hok
  exact lv_imul hx hb d (kk hok H locs ls hP hD hS hl)
theorem r_iand {x y : Int32} (d : decode cc pc = .ok (.iand, 1)) (kk : AtK X Z R cc own nL kc ks ws (pc + 1) lv (.int (x &&& y) :: st)) : AtK X Z R cc own nL kc ks ws pc lv (.int y :: .int x :: st) := by
  obtain ⟨p, l, e, s, m, args, below, meth, c, Q, A, H0⟩ := X
  intro hok H locs ls hP hD hS hl
  obtain ⟨hx, hb, hts, hown, ⟨hK, hN⟩, hml⟩ := id hok
  exact lv_iand hx hb d (kk hok H locs ls hP hD hS hl)
theorem r_idiv {x y : Int32} (d : decode cc pc = .ok (.idiv, 1)) (hne : ¬ y = 0) (kk : AtK X Z R cc own nL kc ks ws (pc + 1) lv (.int (x / y) :: st)) : AtK X Z R cc own nL kc ks ws pc lv (.int y :: .int x :: st) := by
  obtain ⟨p, l, e, s, m, args, below, meth, c, Q, A, H0⟩ := X
  intro hok H locs ls hP hD hS hl
  obtain ⟨hx, hb, hts, hown, ⟨hK, hN⟩, hml⟩ := id hok
  exact lv_idiv hx hb d hne (kk hok H locs ls hP hD hS hl)
theorem r_irem {x y : Int32} (d : decode cc pc = .ok (.irem, 1)) (hne : ¬ y = 0) (kk : AtK X Z R cc own nL kc ks ws (pc + 1) lv (.int (jrem x y) :: st)) : AtK X Z R cc own nL kc ks ws pc lv (.int y :: .int x :: st) := by
  obtain ⟨p, l, e, s, m, args, below, meth, c, Q, A, H0⟩ := X
  intro hok H locs ls hP hD hS hl
  obtain ⟨hx, hb, hts, hown, ⟨hK, hN⟩, hml⟩ := id hok
  exact lv_irem hx hb d hne (kk hok H locs ls hP hD hS hl)
theorem r_ineg {x : Int32} (d : decode cc pc = .ok (.ineg, 1)) (kk : AtK X Z R cc own nL kc ks ws (pc + 1) lv (.int (-x) :: st)) : AtK X Z R cc own nL kc ks ws pc lv (.int x :: st) := by
  obtain ⟨p, l, e, s, m, args, below, meth, c, Q, A, H0⟩ := X
  intro hok H locs ls hP hD hS hl
  obtain ⟨hx, hb, hts, hown, ⟨hK, hN⟩, hml⟩ := id hok
  exact lv_ineg hx hb d (kk hok H locs ls hP hD hS hl)
theorem r_dup {va : Value} (d : decode cc pc = .ok (.dup, 1)) (hva : va.category = 1) (kk : AtK X Z R cc own nL kc ks ws (pc + 1) lv (va :: va :: st)) : AtK X Z R cc own nL kc ks ws pc lv (va :: st) := by
  obtain ⟨p, l, e, s, m, args, below, meth, c, Q, A, H0⟩ := X
  intro hok H locs ls hP hD hS hl
  obtain ⟨hx, hb, hts, hown, ⟨hK, hN⟩, hml⟩ := id hok
  exact lv_dup hx hb d hva (kk hok H locs ls hP hD hS hl)
theorem r_pop {va : Value} (d : decode cc pc = .ok (.pop, 1)) (hva : va.category = 1) (kk : AtK X Z R cc own nL kc ks ws (pc + 1) lv (st)) : AtK X Z R cc own nL kc ks ws pc lv (va :: st) := by
  obtain ⟨p, l, e, s, m, args, below, meth, c, Q, A, H0⟩ := X
  intro hok H locs ls hP hD hS hl
  obtain ⟨hx, hb, hts, hown, ⟨hK, hN⟩, hml⟩ := id hok
  exact lv_pop hx hb d hva (kk hok H locs ls hP hD hS hl)
theorem r_dup2 {va vb : Value} (d : decode cc pc = .ok (.dup2, 1)) (hva : va.category = 1) (hvb : vb.category = 1) (kk : AtK X Z R cc own nL kc ks ws (pc + 1) lv (va :: vb :: va :: vb :: st)) : AtK X Z R cc own nL kc ks ws pc lv (va :: vb :: st) := by
  obtain ⟨p, l, e, s, m, args, below, meth, c, Q, A, H0⟩ := X
  intro hok H locs ls hP hD hS hl
  obtain ⟨hx, hb, hts, hown, ⟨hK, hN⟩, hml⟩ := id hok
  exact lv_dup2_11 hx hb d hva hvb (kk hok H locs ls hP hD hS hl)
theorem r_null  (d : decode cc pc = .ok (.aconst_null, 1)) (kk : AtK X Z R cc own nL kc ks ws (pc + 1) lv (.null :: st)) : AtK X Z R cc own nL kc ks ws pc lv (st) := by
  obtain ⟨p, l, e, s, m, args, below, meth, c, Q, A, H0⟩ := X
  intro hok H locs ls hP hD hS hl
  obtain ⟨hx, hb, hts, hown, ⟨hK, hN⟩, hml⟩ := id hok
  exact lv_null hx hb d (kk hok H locs ls hP hD hS hl)
theorem r_ifnull {x : Nat} {off : Int} (d : decode cc pc = .ok (.ifnull off, 3)) (kk : AtK X Z R cc own nL kc ks ws (pc + 3) lv st) : AtK X Z R cc own nL kc ks ws pc lv (.ref x :: st) := by
  obtain ⟨p, l, e, s, m, args, below, meth, c, Q, A, H0⟩ := X
  intro hok H locs ls hP hD hS hl
  obtain ⟨hx, hb, hts, hown, ⟨hK, hN⟩, hml⟩ := id hok
  exact lv_ifnull hx hb d (kk hok H locs ls hP hD hS hl)
theorem r_ifnullN {off : Int} {tgt : Nat} (d : decode cc pc = .ok (.ifnull off, 3)) (ht : (pc : Int) + off = (tgt : Int)) (kk : AtK X Z R cc own nL kc ks ws tgt lv st) : AtK X Z R cc own nL kc ks ws pc lv (.null :: st) := by
  obtain ⟨p, l, e, s, m, args, below, meth, c, Q, A, H0⟩ := X
  intro hok H locs ls hP hD hS hl
  obtain ⟨hx, hb, hts, hown, ⟨hK, hN⟩, hml⟩ := id hok
  exact lv_ifnullN hx hb d ht (kk hok H locs ls hP hD hS hl)
theorem r_if_eq {x : Int32} {off : Int} {tgt : Nat} (d : decode cc pc = .ok (.ifCond .eq off, 3)) (ht : (pc : Int) + off = (tgt : Int)) (kt : x = 0 → AtK X Z R cc own nL kc ks ws tgt lv st) (kf : ¬ x = 0 → AtK X Z R cc own nL kc ks ws (pc + 3) lv st) : AtK X Z R cc own nL kc ks ws pc lv (.int x :: st) := by
  obtain ⟨p, l, e, s, m, args, below, meth, c, Q, A, H0⟩ := X
  intro hok H locs ls hP hD hS hl
  obtain ⟨hx, hb, hts, hown, ⟨hK, hN⟩, hml⟩ := id hok
  exact lv_if_eq hx hb d ht (fun h => kt h hok H locs ls hP hD hS hl) (fun h => kf h hok H locs ls hP hD hS hl)
theorem r_if_ne {x : Int32} {off : Int} {tgt : Nat} (d : decode cc pc = .ok (.ifCond .ne off, 3)) (ht : (pc : Int) + off = (tgt : Int)) (kt : ¬ x = 0 → AtK X Z R cc own nL kc ks ws tgt lv st) (kf : x = 0 → AtK X Z R cc own nL kc ks ws (pc + 3) lv st) : AtK X Z R cc own nL kc ks ws pc lv (.int x :: st) := by
  obtain ⟨p, l, e, s, m, args, below, meth, c, Q, A, H0⟩ := X
  intro hok H locs ls hP hD hS hl
  obtain ⟨hx, hb, hts, hown, ⟨hK, hN⟩, hml⟩ := id hok
  exact lv_if_ne hx hb d ht (fun h => kt h hok H locs ls hP hD hS hl) (fun h => kf h hok H locs ls hP hD hS hl)
theorem r_if_lt {x : Int32} {off : Int} {tgt : Nat} (d : decode cc pc = .ok (.ifCond .lt off, 3)) (ht : (pc : Int) + off = (tgt : Int)) (kt : x < 0 → AtK X Z R cc own nL kc ks ws tgt lv st) (kf : ¬ x < 0 → AtK X Z R cc own nL kc ks ws (pc + 3) lv st) : AtK X Z R cc own nL kc ks ws pc lv (.int x :: st) := by
  obtain ⟨p, l, e, s, m, args, below, meth, c, Q, A, H0⟩ := X
  intro hok H locs ls hP hD hS hl
  obtain ⟨hx, hb, hts, hown, ⟨hK, hN⟩, hml⟩ := id hok
  exact lv_if_lt hx hb d ht (fun h => kt h hok H locs ls hP hD hS hl) (fun h => kf h hok H locs ls hP hD hS hl)
theorem r_if_ge {x : Int32} {off : Int} {tgt : Nat} (d : decode cc pc = .ok (.ifCond .ge off, 3)) (ht : (pc : Int) + off = (tgt : Int)) (kt : 0 ≤ x → AtK X Z R cc own nL kc ks ws tgt lv st) (kf : ¬ 0 ≤ x → AtK X Z R cc own nL kc ks ws (pc + 3) lv st) : AtK X Z R cc own nL kc ks ws pc lv (.int x :: st) := by
  obtain ⟨p, l, e, s, m, args, below, meth, c, Q, A, H0⟩ := X
  intro hok H locs ls hP hD hS hl
  obtain ⟨hx, hb, hts, hown, ⟨hK, hN⟩, hml⟩ := id hok
  exact lv_if_ge hx hb d ht (fun h => kt h hok H locs ls hP hD hS hl) (fun h => kf h hok H locs ls hP hD hS hl)
theorem r_if_gt {x : Int32} {off : Int} {tgt : Nat} (d : decode cc pc = .ok (.ifCond .gt off, 3)) (ht : (pc : Int) + off = (tgt : Int)) (kt : 0 < x → AtK X Z R cc own nL kc ks ws tgt lv st) (kf : ¬ 0 < x → AtK X Z R cc own nL kc ks ws (pc + 3) lv st) : AtK X Z R cc own nL kc ks ws pc lv (.int x :: st) := by
  obtain ⟨p, l, e, s, m, args, below, meth, c, Q, A, H0⟩ := X
  intro hok H locs ls hP hD hS hl
  obtain ⟨hx, hb, hts, hown, ⟨hK, hN⟩, hml⟩ := id hok
  exact lv_if_gt hx hb d ht (fun h => kt h hok H locs ls hP hD hS hl) (fun h => kf h hok H locs ls hP hD hS hl)
theorem r_if_le {x : Int32} {off : Int} {tgt : Nat} (d : decode cc pc = .ok (.ifCond .le off, 3)) (ht : (pc : Int) + off = (tgt : Int)) (kt : x ≤ 0 → AtK X Z R cc own nL kc ks ws tgt lv st) (kf : ¬ x ≤ 0 → AtK X Z R cc own nL kc ks ws (pc + 3) lv st) : AtK X Z R cc own nL kc ks ws pc lv (.int x :: st) := by
  obtain ⟨p, l, e, s, m, args, below, meth, c, Q, A, H0⟩ := X
  intro hok H locs ls hP hD hS hl
  obtain ⟨hx, hb, hts, hown, ⟨hK, hN⟩, hml⟩ := id hok
  exact lv_if_le hx hb d ht (fun h => kt h hok H locs ls hP hD hS hl) (fun h => kf h hok H locs ls hP hD hS hl)
theorem r_icmp_eq {x y : Int32} {off : Int} {tgt : Nat} (d : decode cc pc = .ok (.if_icmp .eq off, 3)) (ht : (pc : Int) + off = (tgt : Int)) (kt : x = y → AtK X Z R cc own nL kc ks ws tgt lv st) (kf : ¬ x = y → AtK X Z R cc own nL kc ks ws (pc + 3) lv st) : AtK X Z R cc own nL kc ks ws pc lv (.int y :: .int x :: st) := by
  obtain ⟨p, l, e, s, m, args, below, meth, c, Q, A, H0⟩ := X
  intro hok H locs ls hP hD hS hl
  obtain ⟨hx, hb, hts, hown, ⟨hK, hN⟩, hml⟩ := id hok
  exact lv_icmp_eq hx hb d ht (fun h => kt h hok H locs ls hP hD hS hl) (fun h => kf h hok H locs ls hP hD hS hl)
theorem r_icmp_ne {x y : Int32} {off : Int} {tgt : Nat} (d : decode cc pc = .ok (.if_icmp .ne off, 3)) (ht : (pc : Int) + off = (tgt : Int)) (kt : ¬ x = y → AtK X Z R cc own nL kc ks ws tgt lv st) (kf : x = y → AtK X Z R cc own nL kc ks ws (pc + 3) lv st) : AtK X Z R cc own nL kc ks ws pc lv (.int y :: .int x :: st) := by
  obtain ⟨p, l, e, s, m, args, below, meth, c, Q, A, H0⟩ := X
  intro hok H locs ls hP hD hS hl
  obtain ⟨hx, hb, hts, hown, ⟨hK, hN⟩, hml⟩ := id hok
  exact lv_icmp_ne hx hb d ht (fun h => kt h hok H locs ls hP hD hS hl) (fun h => kf h hok H locs ls hP hD hS hl)
theorem r_icmp_lt {x y : Int32} {off : Int} {tgt : Nat} (d : decode cc pc = .ok (.if_icmp .lt off, 3)) (ht : (pc : Int) + off = (tgt : Int)) (kt : x < y → AtK X Z R cc own nL kc ks ws tgt lv st) (kf : ¬ x < y → AtK X Z R cc own nL kc ks ws (pc + 3) lv st) : AtK X Z R cc own nL kc ks ws pc lv (.int y :: .int x :: st) := by
  obtain ⟨p, l, e, s, m, args, below, meth, c, Q, A, H0⟩ := X
  intro hok H locs ls hP hD hS hl
  obtain ⟨hx, hb, hts, hown, ⟨hK, hN⟩, hml⟩ := id hok
  exact lv_icmp_lt hx hb d ht (fun h => kt h hok H locs ls hP hD hS hl) (fun h => kf h hok H locs ls hP hD hS hl)
theorem r_icmp_ge {x y : Int32} {off : Int} {tgt : Nat} (d : decode cc pc = .ok (.if_icmp .ge off, 3)) (ht : (pc : Int) + off = (tgt : Int)) (kt : y ≤ x → AtK X Z R cc own nL kc ks ws tgt lv st) (kf : ¬ y ≤ x → AtK X Z R cc own nL kc ks ws (pc + 3) lv st) : AtK X Z R cc own nL kc ks ws pc lv (.int y :: .int x :: st) := by
  obtain ⟨p, l, e, s, m, args, below, meth, c, Q, A, H0⟩ := X
  intro hok H locs ls hP hD hS hl
  obtain ⟨hx, hb, hts, hown, ⟨hK, hN⟩, hml⟩ := id hok
  exact lv_icmp_ge hx hb d ht (fun h => kt h hok H locs ls hP hD hS hl) (fun h => kf h hok H locs ls hP hD hS hl)
theorem r_icmp_gt {x y : Int32} {off : Int} {tgt : Nat} (d : decode cc pc = .ok (.if_icmp .gt off, 3)) (ht : (pc : Int) + off = (tgt : Int)) (kt : y < x → AtK X Z R cc own nL kc ks ws tgt lv st) (kf : ¬ y < x → AtK X Z R cc own nL kc ks ws (pc + 3) lv st) : AtK X Z R cc own nL kc ks ws pc lv (.int y :: .int x :: st) := by
  obtain ⟨p, l, e, s, m, args, below, meth, c, Q, A, H0⟩ := X
  intro hok H locs ls hP hD hS hl
  obtain ⟨hx, hb, hts, hown, ⟨hK, hN⟩, hml⟩ := id hok
  exact lv_icmp_gt hx hb d ht (fun h => kt h hok H locs ls hP hD hS hl) (fun h => kf h hok H locs ls hP hD hS hl)
theorem r_icmp_le {x y : Int32} {off : Int} {tgt : Nat} (d : decode cc pc = .ok (.if_icmp .le off, 3)) (ht : (pc : Int) + off = (tgt : Int)) (kt : x ≤ y → AtK X Z R cc own nL kc ks ws tgt lv st) (kf : ¬ x ≤ y → AtK X Z R cc own nL kc ks ws (pc + 3) lv st) : AtK X Z R cc own nL kc ks ws pc lv (.int y :: .int x :: st) := by
  obtain ⟨p, l, e, s, m, args, below, meth, c, Q, A, H0⟩ := X
  intro hok H locs ls hP hD hS hl
  obtain ⟨hx, hb, hts, hown, ⟨hK, hN⟩, hml⟩ := id hok
  exact lv_icmp_le hx hb d ht (fun h => kt h hok H locs ls hP hD hS hl) (fun h => kf h hok H locs ls hP hD hS hl)
theorem r_goto {off : Int} {tgt : Nat} (d : decode cc pc = .ok (.goto off, 3)) (ht : (pc : Int) + off = (tgt : Int)) (kk : AtK X Z R cc own nL kc ks ws tgt lv st) : AtK X Z R cc own nL kc ks ws pc lv st := by
  obtain ⟨p, l, e, s, m, args, below, meth, c, Q, A, H0⟩ := X
  intro hok H locs ls hP hD hS hl
  obtain ⟨hx, hb, hts, hown, ⟨hK, hN⟩, hml⟩ := id hok
  exact lv_goto hx hb d ht (kk hok H locs ls hP hD hS hl)
theorem r_tableIn {dflt lo hi : Int} {offs : Array Int} {len : Nat} {x : Int32} {off : Int} {tgt : Nat} (d : decode cc pc = .ok (.tableswitch dflt lo hi offs, len)) (h1 : ¬ x.toInt < lo) (h2 : ¬ hi < x.toInt) (ho : offs[(x.toInt - lo).toNat]? = some off) (ht : (pc : Int) + off = (tgt : Int)) (kk : AtK X Z R cc own nL kc ks ws tgt lv st) : AtK X Z R cc own nL kc ks ws pc lv (.int x :: st) := by
  obtain ⟨p, l, e, s, m, args, below, meth, c, Q, A, H0⟩ := X
  intro hok H locs ls hP hD hS hl
  obtain ⟨hx, hb, hts, hown, ⟨hK, hN⟩, hml⟩ := id hok
  exact lv_tableIn hx hb d h1 h2 ho ht (kk hok H locs ls hP hD hS hl)
theorem r_tableOut {dflt lo hi : Int} {offs : Array Int} {len : Nat} {x : Int32} {tgt : Nat} (d : decode cc pc = .ok (.tableswitch dflt lo hi offs, len)) (h : x.toInt < lo ∨ hi < x.toInt) (ht : (pc : Int) + dflt = (tgt : Int)) (kk : AtK X Z R cc own nL kc ks ws tgt lv st) : AtK X Z R cc own nL kc ks ws pc lv (.int x :: st) := by
  obtain ⟨p, l, e, s, m, args, below, meth, c, Q, A, H0⟩ := X
  intro hok H locs ls hP hD hS hl
  obtain ⟨hx, hb, hts, hown, ⟨hK, hN⟩, hml⟩ := id hok
  exact lv_tableOut hx hb d h ht (kk hok H locs ls hP hD hS hl)
theorem r_lookup {dflt : Int} {ps : Array (Int × Int)} {len : Nat} {x : Int32} {off : Int} {tgt : Nat} (d : decode cc pc = .ok (.lookupswitch dflt ps, len)) (hp : (ps.toList.zip (ps.toList.drop 1)).all (fun (a, next) => a.1 < next.1) = true) (ho : Op.lookupswitch.offset ps.toList dflt x.toInt = off) (ht : (pc : Int) + off = (tgt : Int)) (kk : AtK X Z R cc own nL kc ks ws tgt lv st) : AtK X Z R cc own nL kc ks ws pc lv (.int x :: st) := by
  obtain ⟨p, l, e, s, m, args, below, meth, c, Q, A, H0⟩ := X
  intro hok H locs ls hP hD hS hl
  obtain ⟨hx, hb, hts, hown, ⟨hK, hN⟩, hml⟩ := id hok
  exact lv_lookup hx hb d hp ho ht (kk hok H locs ls hP hD hS hl)
theorem r_sub (ks9 : List Nat) {lv' : List (Nat × Value)} (h9 : lv_pick lv ks9 = lv') (kk : AtK X Z R cc own nL kc ks ws pc lv' st) : AtK X Z R cc own nL kc ks ws pc lv st := by
  obtain ⟨p, l, e, s, m, args, below, meth, c, Q, A, H0⟩ := X
  intro hok H locs ls hP hD hS hl
  obtain ⟨hx, hb, hts, hown, ⟨hK, hN⟩, hml⟩ := id hok
  exact kk hok H locs ls hP hD hS (lv_sub hl ks9 h9)
theorem r_ws {ws' : va_W} (h9 : ws = ws') (kk : AtK X Z R cc own nL kc ks ws' pc lv st) : AtK X Z R cc own nL kc ks ws pc lv st := by
  subst h9
  exact kk
theorem r_getf {C : String} {T : u_T} {N ci ix a : Nat} {fs : List Value} (hin : ∀ w ∈ u_ws C T N, w ∈ lw_tb) (hc : vwCl[ci]? = some (C, T, N)) (k : Nat) (hk : k < N) (hs : (T k).1 = C) {v : Value} (q0 : Nat) (he : ws[q0]? = some (a, .inr (ci, fs))) (hv : fs[k]? = some v) (q : Cond.fieldLink own ix C (T k).2.1 (T k).2.2.1 ∈ lw_tb) (d : decode cc pc = .ok (.getfield ix, 3)) (kk : AtK X Z R cc own nL kc ks ws (pc + 3) lv (v :: st)) : AtK X Z R cc own nL kc ks ws pc lv (.ref a :: st) := by
  obtain ⟨p, l, e, s, m, args, below, meth, c, Q, A, H0⟩ := X
  intro hok H locs ls hP hD hS hl
  obtain ⟨hx, hb, hts, hown, ⟨hK, hN⟩, hml⟩ := id hok
  exact va_get hx hb hts hin hown hK hP q0 he hc k hk (hts _ q) (fun x h => by rw [hs] at h; exact h) hv d (kk hok H locs ls hP hD hS hl)
theorem r_getfN {C : String} {T : u_T} {N ci ix a : Nat} {fs : List Value} {host : String} (hin : ∀ w ∈ u_ws C T N, w ∈ lw_tb) (hc : vwCl[ci]? = some (C, T, N)) (k : Nat) (hk : k < N) (hs : (T k).1 = C) {v : Value} (q0 : Nat) (he : ws[q0]? = some (a, .inr (ci, fs))) (hv : fs[k]? = some v) (q : Cond.fieldLinkNest own ix C (T k).2.1 (T k).2.2.1 host ∈ lw_ns) (d : decode cc pc = .ok (.getfield ix, 3)) (kk : AtK X Z R cc own nL kc ks ws (pc + 3) lv (v :: st)) : AtK X Z R cc own nL kc ks ws pc lv (.ref a :: st) := by
  obtain ⟨p, l, e, s, m, args, below, meth, c, Q, A, H0⟩ := X
  intro hok H locs ls hP hD hS hl
  obtain ⟨hx, hb, hts, hown, ⟨hK, hN⟩, hml⟩ := id hok
  exact va_getN hx hb hts hin hown hK hP q0 he hc k hk (va_Nw.use rfl (hN _ q)) (fun x h => by rw [hs] at h; exact h) hv d (kk hok H locs ls hP hD hS hl)
theorem r_putf {C : String} {T : u_T} {N ci ix a : Nat} {fs : List Value} {host : String} (hin : ∀ w ∈ u_ws C T N, w ∈ lw_tb) (hc : vwCl[ci]? = some (C, T, N)) (k : Nat) (hk : k < N) (hs : (T k).1 = C) (ty0 : Nat → FieldType) (hty : ∀ k, k < N → parseFieldDescriptor (T k).2.2.1 = some (ty0 k)) (hnm : ∀ a, a < N → ∀ b, b < N → a ≠ b → (T a).2.1 ≠ (T b).2.1) (hfin : (T k).2.2.2 = false) {ty : FieldType} (hd : parseFieldDescriptor (T k).2.2.1 = some ty) {v : Value} (hn : narrow ty v = v) (hfit : fits ty v = true) (q0 : Nat) (he : ws[q0]? = some (a, .inr (ci, fs))) (hle : k < fs.length) (q : Cond.fieldLink own ix C (T k).2.1 (T k).2.2.1 ∈ lw_tb) (d : decode cc pc = .ok (.putfield ix, 3)) {ws' : va_W} (hw9 : ws.set q0 (a, .inr (ci, fs.set k v)) = ws') (kk : AtK X Z R cc own nL kc ks ws' (pc + 3) lv st) : AtK X Z R cc own nL kc ks ws pc lv (v :: .ref a :: st) := by
  obtain ⟨p, l, e, s, m, args, below, meth, c, Q, A, H0⟩ := X
  intro hok H locs ls hP hD hS hl
  obtain ⟨hx, hb, hts, hown, ⟨hK, hN⟩, hml⟩ := id hok
  subst hw9
  exact va_put hx hb hts hin ty0 hty hnm hown hK hP hD hS q0 he hc k hk (hts _ q) (fun x h => by rw [hs] at h; exact h) hfin hd hn hfit hle d (fun H1 locs1 hP1 hD1 hS1 => kk hok H1 locs1 ls hP1 hD1 hS1 hl)
theorem r_putfN {C : String} {T : u_T} {N ci ix a : Nat} {fs : List Value} {host : String} (hin : ∀ w ∈ u_ws C T N, w ∈ lw_tb) (hc : vwCl[ci]? = some (C, T, N)) (k : Nat) (hk : k < N) (hs : (T k).1 = C) (ty0 : Nat → FieldType) (hty : ∀ k, k < N → parseFieldDescriptor (T k).2.2.1 = some (ty0 k)) (hnm : ∀ a, a < N → ∀ b, b < N → a ≠ b → (T a).2.1 ≠ (T b).2.1) (hfin : (T k).2.2.2 = false) {ty : FieldType} (hd : parseFieldDescriptor (T k).2.2.1 = some ty) {v : Value} (hn : narrow ty v = v) (hfit : fits ty v = true) (q0 : Nat) (he : ws[q0]? = some (a, .inr (ci, fs))) (hle : k < fs.length) (q : Cond.fieldLinkNest own ix C (T k).2.1 (T k).2.2.1 host ∈ lw_ns) (d : decode cc pc = .ok (.putfield ix, 3)) {ws' : va_W} (hw9 : ws.set q0 (a, .inr (ci, fs.set k v)) = ws') (kk : AtK X Z R cc own nL kc ks ws' (pc + 3) lv st) : AtK X Z R cc own nL kc ks ws pc lv (v :: .ref a :: st) := by
  obtain ⟨p, l, e, s, m, args, below, meth, c, Q, A, H0⟩ := X
  intro hok H locs ls hP hD hS hl
  obtain ⟨hx, hb, hts, hown, ⟨hK, hN⟩, hml⟩ := id hok
  subst hw9
  exact va_putN hx hb hts hin ty0 hty hnm hown hK hP hD hS q0 he hc k hk (va_Nw.use rfl (hN _ q)) (fun x h => by rw [hs] at h; exact h) hfin hd hn hfit hle d (fun H1 locs1 hP1 hD1 hS1 => kk hok H1 locs1 ls hP1 hD1 hS1 hl)
theorem r_iald {a n : Nat} {f : Nat → Int32} (q0 : Nat) (ha : ws[q0]? = some (a, .inl (Z.2.1, n, .inl f))) {i : Int32} (hin : ¬ (i < 0 ∨ n ≤ i.toNatClampNeg)) (d : decode cc pc = .ok (.iaload, 1)) (kk : AtK X Z R cc own nL kc ks ws (pc + 1) lv (.int (f i.toNatClampNeg) :: st)) : AtK X Z R cc own nL kc ks ws pc lv (.int i :: .ref a :: st) := by
  obtain ⟨p, l, e, s, m, args, below, meth, c, Q, A, H0⟩ := X
  intro hok H locs ls hP hD hS hl
  obtain ⟨hx, hb, hts, hown, ⟨hK, hN⟩, hml⟩ := id hok
  exact va_iald hx hb hK hP q0 0 ha rfl hin d (kk hok H locs ls hP hD hS hl)
theorem r_ialdL {a n : Nat} {f : Nat → Int32} (q0 : Nat) (ha : ws[q0]? = some (a, .inl (Z.2.1, n, .inl f))) {i : Int32} {j : Nat} (hj : i.toNatClampNeg = j) (hin : ¬ (i < 0 ∨ n ≤ i.toNatClampNeg)) (d : decode cc pc = .ok (.iaload, 1)) (kk : AtK X Z R cc own nL kc ks ws (pc + 1) lv (.int (f j) :: st)) : AtK X Z R cc own nL kc ks ws pc lv (.int i :: .ref a :: st) := by
  subst hj
  exact r_iald q0 ha hin d kk
theorem r_ialdV {a n : Nat} {f : Nat → Int32} (q0 : Nat) (ha : ws[q0]? = some (a, .inl (Z.2.1, n, .inl f))) {i : Int32} {j : Nat} (hj : i.toNatClampNeg = j) (hin : ¬ (i < 0 ∨ n ≤ i.toNatClampNeg)) {v : Int32} (hv : f j = v) (d : decode cc pc = .ok (.iaload, 1)) (kk : AtK X Z R cc own nL kc ks ws (pc + 1) lv (.int v :: st)) : AtK X Z R cc own nL kc ks ws pc lv (.int i :: .ref a :: st) := by
  subst hv
  exact r_ialdL q0 ha hj hin d kk
theorem r_iast {a n : Nat} {f : Nat → Int32} (q0 : Nat) (ha : ws[q0]? = some (a, .inl (Z.2.1, n, .inl f))) {i x : Int32} {j : Nat} (hj : i.toNatClampNeg = j) (hin : ¬ (i < 0 ∨ n ≤ i.toNatClampNeg)) (d : decode cc pc = .ok (.iastore, 1)) {ws' : va_W} (hw9 : ws.set q0 (a, .inl (Z.2.1, n, .inl (upd f j x))) = ws') (kk : AtK X Z R cc own nL kc ks ws' (pc + 1) lv st) : AtK X Z R cc own nL kc ks ws pc lv (.int x :: .int i :: .ref a :: st) := by
  subst hj
  obtain ⟨p, l, e, s, m, args, below, meth, c, Q, A, H0⟩ := X
  intro hok H locs ls hP hD hS hl
  obtain ⟨hx, hb, hts, hown, ⟨hK, hN⟩, hml⟩ := id hok
  subst hw9
  exact va_iast hx hb hK hP hD hS q0 0 ha rfl hin d (fun H1 locs1 hP1 hD1 hS1 => kk hok H1 locs1 ls hP1 hD1 hS1 hl)
theorem r_alen {a n : Nat} {x : (Nat → Int32) ⊕ (Nat → Int64) ⊕ (Nat → UInt32) ⊕ (Nat → UInt64) ⊕ (Nat → Option Nat)} (q0 t0 : Nat) {cA : ClassId} {ty : FieldType} (ha : ws[q0]? = some (a, .inl (cA, n, x))) (ht : ([(Z.2.1, .int), (Z.2.2.1, .object RX5), (Z.2.2.2, .object RX1)] : List (ClassId × FieldType))[t0]? = some (cA, ty)) {v : Int32} (hv : Int32.ofNat n = v) (d : decode cc pc = .ok (.arraylength, 1)) (kk : AtK X Z R cc own nL kc ks ws (pc + 1) lv (.int v :: st)) : AtK X Z R cc own nL kc ks ws pc lv (.ref a :: st) := by
  obtain ⟨p, l, e, s, m, args, below, meth, c, Q, A, H0⟩ := X
  intro hok H locs ls hP hD hS hl
  obtain ⟨hx, hb, hts, hown, ⟨hK, hN⟩, hml⟩ := id hok
  exact va_alen hx hb hK hP q0 t0 ha ht hv d (kk hok H locs ls hP hD hS hl)
theorem r_aald {a n : Nat} {f : Nat → Option Nat} {C : String} (q0 t0 : Nat) {cA : ClassId} (ha : ws[q0]? = some (a, .inl (cA, n, .inr (.inr (.inr (.inr f)))))) (ht : ([(Z.2.1, .int), (Z.2.2.1, .object RX5), (Z.2.2.2, .object RX1)] : List (ClassId × FieldType))[t0]? = some (cA, .object C)) {i : Int32} (hin : ¬ (i < 0 ∨ n ≤ i.toNatClampNeg)) {v : Value} (hv : va_rf (f i.toNatClampNeg) = v) (d : decode cc pc = .ok (.aaload, 1)) (kk : AtK X Z R cc own nL kc ks ws (pc + 1) lv (v :: st)) : AtK X Z R cc own nL kc ks ws pc lv (.int i :: .ref a :: st) := by
  subst hv
  obtain ⟨p, l, e, s, m, args, below, meth, c, Q, A, H0⟩ := X
  intro hok H locs ls hP hD hS hl
  obtain ⟨hx, hb, hts, hown, ⟨hK, hN⟩, hml⟩ := id hok
  exact va_aldq hx hb hK hP q0 t0 ha ht hin d (kk hok H locs ls hP hD hS hl)
theorem xP_arr {D : va_G} {cl : List vw_C} {ws : va_W} {H : Heap} {q1 a N : Nat} {c : ClassId} {f g : Nat → Int32} (hx : ∀ j, j < N → f j = g j) (h : va_P D cl (ws.set q1 (a, .inl (c, N, .inl g))) H) : va_P D cl (ws.set q1 (a, .inl (c, N, .inl f))) H := by
  intro k q hk
  by_cases hq : k = q1
  · subst hq
    have hlt : k < ws.length := by
      have := (List.getElem?_eq_some_iff.mp hk).1
      simpa using this
    rw [List.getElem?_set_self hlt] at hk
    cases hk
    have h1 := h k (a, .inl (c, N, .inl g)) (List.getElem?_set_self hlt)
    have h2 : H[a]? = some (vp_cell c (N, .inl g)) := h1
    show H[a]? = some (vp_cell c (N, .inl f))
    rw [h2, vp_cell_i, vp_cell_i]
    congr 1
    unfold arrV
    congr 1
    apply Array.ext
    · simp
    · intro i h3 h4
      simp at h3
      simp [hx i h3]
  · refine h k q ?_
    rw [List.getElem?_set_ne (fun e => hq e.symm)] at hk ⊢
    exact hk
theorem r_copyi {a a0 N ix : Nat} {f g : Nat → Int32} (q0 q1 : Nat) (ha0 : ws[q0]? = some (a0, .inl (Z.2.1, N, .inl f))) (ha1 : ws[q1]? = some (a, .inl (Z.2.1, N, .inl g))) {n : Int32} (hn0 : ¬ n < 0) (hn : n.toNatClampNeg = N) (w1 : Cond.methodLink own ix arraycopyName ∈ lw_tb) (w2 : Cond.native arraycopyName ∈ lw_tb) (w3 : Cond.static arraycopyName ∈ lw_tb) (w4 : Cond.initialized "java/lang/System" ∈ lw_tb) (hf : 1 ≤ R.frames) (hlo : (st.map fun v => v.category).sum + (nativeFrameWords "java/lang/System" "arraycopy" 5 + 11) ≤ R.locals) (d : decode cc pc = .ok (.invokestatic ix, 3)) {ws' : va_W} (hw9 : ws.set q1 (a, .inl (Z.2.1, N, .inl f)) = ws') (kk : AtK X Z R cc own nL kc ks ws' (pc + 3) lv st) : AtK X Z R cc own nL kc ks ws pc lv (.int n :: .int 0 :: .ref a :: .int 0 :: .ref a0 :: st) := by
  obtain ⟨p, l, e, s, m, args, below, meth, c, Q, A, H0⟩ := X
  intro hok H locs ls hP hD hS hl
  obtain ⟨hx, hb, hts, hown, ⟨hK, hN⟩, hml⟩ := id hok
  subst hw9
  have z0 : (0 : Int32).toNatClampNeg = 0 := by decide
  refine va_copyi hx hb (hml.trans hl.1.symm) hown (hts _ w1) (hts _ w2) (hts _ w3) (hts _ w4) hK hP hD hS q0 q1 0 0 ha0 ha1 rfl rfl rfl (by decide) (by decide) hn0 (by rw [z0, hn]; omega) (by rw [z0, hn]; omega) (fun i _ => rfl) hf hlo d (fun H1 locs1 hP1 hD1 hS1 => kk hok H1 locs1 ls ?_ (xD_dom hD1 (by simp [List.map_set])) hS1 hl)
  refine xP_arr (fun j hj => ?_) hP1
  rw [z0, hn]
  simp [va_cpy, hj]
theorem r_mmin {ix : Nat} (q1 : Cond.methodLink own ix Lib.Math.min.name ∈ lw_tb) (q2 : Cond.static Lib.Math.min.name ∈ lw_tb) (q3 : Cond.initialized "java/lang/Math" ∈ lw_tb) (q4 : Cond.code Lib.Math.min.name Lib.Math.min.code 2 (some .int) ∈ lw_tb) (hf : 1 ≤ R.frames) (hlo : (st.map fun v => v.category).sum + 13 ≤ R.locals) (hkc : kc ≤ R.cells) (hks : ks ≤ R.slots) {x y : Int32} (d : decode cc pc = .ok (.invokestatic ix, 3)) (kk : AtK X Z R cc own nL kc ks ws (pc + 3) lv (.int (if y < x then y else x) :: st)) : AtK X Z R cc own nL kc ks ws pc lv (.int y :: .int x :: st) := by
  obtain ⟨p, l, e, s, m, args, below, meth, c, Q, A, H0⟩ := X
  intro hok H locs ls hP hD hS hl
  obtain ⟨hx, hb, hts, hown, ⟨hK, hN⟩, hml⟩ := id hok
  exact va_mmin hx hb (hml.trans hl.1.symm) hown (hts _ q1) (hts _ q2) (hts _ q3) (hts _ q4) hf hlo hkc hks d (kk hok H locs ls hP hD hS hl)
theorem r_mmax {ix : Nat} (q1 : Cond.methodLink own ix Lib.Math.max.name ∈ lw_tb) (q2 : Cond.static Lib.Math.max.name ∈ lw_tb) (q3 : Cond.initialized "java/lang/Math" ∈ lw_tb) (q4 : Cond.code Lib.Math.max.name Lib.Math.max.code 2 (some .int) ∈ lw_tb) (hf : 1 ≤ R.frames) (hlo : (st.map fun v => v.category).sum + 13 ≤ R.locals) (hkc : kc ≤ R.cells) (hks : ks ≤ R.slots) {x y : Int32} (d : decode cc pc = .ok (.invokestatic ix, 3)) (kk : AtK X Z R cc own nL kc ks ws (pc + 3) lv (.int (if x < y then y else x) :: st)) : AtK X Z R cc own nL kc ks ws pc lv (.int y :: .int x :: st) := by
  obtain ⟨p, l, e, s, m, args, below, meth, c, Q, A, H0⟩ := X
  intro hok H locs ls hP hD hS hl
  obtain ⟨hx, hb, hts, hown, ⟨hK, hN⟩, hml⟩ := id hok
  exact va_mmax hx hb (hml.trans hl.1.symm) hown (hts _ q1) (hts _ q2) (hts _ q3) (hts _ q4) hf hlo hkc hks d (kk hok H locs ls hP hD hS hl)
theorem r_mabs {ix : Nat} (q1 : Cond.methodLink own ix Lib.Math.abs.name ∈ lw_tb) (q2 : Cond.static Lib.Math.abs.name ∈ lw_tb) (q3 : Cond.initialized "java/lang/Math" ∈ lw_tb) (q4 : Cond.code Lib.Math.abs.name Lib.Math.abs.code 1 (some .int) ∈ lw_tb) (hf : 1 ≤ R.frames) (hlo : (st.map fun v => v.category).sum + 13 ≤ R.locals) (hkc : kc ≤ R.cells) (hks : ks ≤ R.slots) {x : Int32} (d : decode cc pc = .ok (.invokestatic ix, 3)) (kk : AtK X Z R cc own nL kc ks ws (pc + 3) lv (.int (if 0 ≤ x then x else 0 - x) :: st)) : AtK X Z R cc own nL kc ks ws pc lv (.int x :: st) := by
  obtain ⟨p, l, e, s, m, args, below, meth, c, Q, A, H0⟩ := X
  intro hok H locs ls hP hD hS hl
  obtain ⟨hx, hb, hts, hown, ⟨hK, hN⟩, hml⟩ := id hok
  exact va_mabs hx hb (hml.trans hl.1.symm) hown (hts _ q1) (hts _ q2) (hts _ q3) (hts _ q4) hf hlo hkc hks d (kk hok H locs ls hP hD hS hl)
theorem r_callV {y : MethodName} {bytes : ByteArray} {maxL n ix : Nat} {ret : Option FieldType} {rm : Room} {As rest : List Value} {v : Option Value} {c0 c1 ws' : va_W} (j0 : Nat) {b ci : Nat} {fs : List Value} {r : vw_C} (hb0 : c0[j0]? = some (b, .inr (ci, fs))) (hci : vwCl[ci]? = some r) (hrc : r.1 = y.cls) (hM : ∀ l, Con Z l y bytes maxL ret rm (.ref b :: As) c0 v c1) (q : Cond.methodLink own ix y ∈ lw_tb) (mo : mVo y bytes maxL n ret) (hpk : xPk ws ws' c0 c1) (hR : rm.frames + 1 ≤ R.frames ∧ 8 + (maxL + 11) + rm.locals ≤ R.locals) (hrm : rm.cells = 0 ∧ rm.slots = 0) (hkc : kc ≤ R.cells ∧ ks ≤ R.slots) (hAs : As.length = n) (hroom : (rest.map fun v => v.category).sum ≤ 8) (hst : st = As.reverse ++ .ref b :: rest) (d : decode cc pc = .ok (.invokevirtual ix, 3)) (kk : AtK X Z R cc own nL kc ks ws' (pc + 3) lv (v.toList ++ rest)) : AtK X Z R cc own nL kc ks ws pc lv st := by
  obtain ⟨p, l, e, s, m, args, below, meth, c, Q, A, H0⟩ := X
  intro hok H locs ls hP hD hS hl
  obtain ⟨hx, hb, hts, hown, ⟨hK, hN⟩, hml⟩ := id hok
  subst hst
  have hD0 := hD
  have hrecv : ∃ cell : Cell, H[b]? = some cell ∧ cell.vm.isStatics = false ∧ s.vm.findClass y.cls = some cell.cls := by
    obtain ⟨-, -, hin9, -⟩ := hpk A hD
    obtain ⟨i9, hi9⟩ := List.getElem?_of_mem (hin9 _ (List.mem_of_getElem? hb0))
    have hz := va_recv hK hP hci hi9
    rw [hrc] at hz
    exact hz
  have hpre := x_pre (av := .ref b :: As) ⟨hK, hN⟩ hP hD hpk
  exact x_call (va_runV (C := y.cls) ⟨hx, hb, hml, hown, hts⟩ (hM l) (⟨callB_of n hts (lw_GoodIn mo.2.2.2.1) rfl hrm.1 hrm.2 (hts _ mo.2.2.1) (hts _ q) mo.2.2.2.2 hR, hts _ mo.1, hts _ mo.2.1⟩) ⟨x_blind _ _, hrecv, hpre⟩ rfl hAs hl.1 rfl (lv_room hroom) d ⟨hkc.1, hkc.2⟩) hP hD hS hpk (fun H1 locs1 hP1 hD1 hS1 => kk hok H1 locs1 ls hP1 hD1 hS1 hl)
theorem r_callVN {y : MethodName} {bytes : ByteArray} {maxL n ix : Nat} {ret : Option FieldType} {rm : Room} {As rest : List Value} {v : Option Value} {c0 c1 ws' : va_W} {host : String} (j0 : Nat) {b ci : Nat} {fs : List Value} {r : vw_C} (hb0 : c0[j0]? = some (b, .inr (ci, fs))) (hci : vwCl[ci]? = some r) (hrc : r.1 = y.cls) (hM : ∀ l, Con Z l y bytes maxL ret rm (.ref b :: As) c0 v c1) (q : Cond.methodLinkNest own ix y host ∈ lw_ns) (mo : mVo y bytes maxL n ret) (hpk : xPk ws ws' c0 c1) (hR : rm.frames + 1 ≤ R.frames ∧ 8 + (maxL + 11) + rm.locals ≤ R.locals) (hrm : rm.cells = 0 ∧ rm.slots = 0) (hkc : kc ≤ R.cells ∧ ks ≤ R.slots) (hAs : As.length = n) (hroom : (rest.map fun v => v.category).sum ≤ 8) (hst : st = As.reverse ++ .ref b :: rest) (d : decode cc pc = .ok (.invokevirtual ix, 3)) (kk : AtK X Z R cc own nL kc ks ws' (pc + 3) lv (v.toList ++ rest)) : AtK X Z R cc own nL kc ks ws pc lv st := by
  obtain ⟨p, l, e, s, m, args, below, meth, c, Q, A, H0⟩ := X
  intro hok H locs ls hP hD hS hl
  obtain ⟨hx, hb, hts, hown, ⟨hK, hN⟩, hml⟩ := id hok
  subst hst
  have hD0 := hD
  have hrecv : ∃ cell : Cell, H[b]? = some cell ∧ cell.vm.isStatics = false ∧ s.vm.findClass y.cls = some cell.cls := by
    obtain ⟨-, -, hin9, -⟩ := hpk A hD
    obtain ⟨i9, hi9⟩ := List.getElem?_of_mem (hin9 _ (List.mem_of_getElem? hb0))
    have hz := va_recv hK hP hci hi9
    rw [hrc] at hz
    exact hz
  have hpre := x_pre (av := .ref b :: As) ⟨hK, hN⟩ hP hD hpk
  exact x_call (va_runVN (C := y.cls) ⟨hx, hb, hml, hown, hts⟩ (hM l) (⟨va_cnB n hts (lw_GoodIn mo.2.2.2.1) rfl hrm.1 hrm.2 (hN _ q) (hts _ mo.2.2.1) mo.2.2.2.2 hR, hts _ mo.1, hts _ mo.2.1⟩) ⟨x_blind _ _, hrecv, hpre⟩ rfl hAs hl.1 rfl (lv_room hroom) d ⟨hkc.1, hkc.2⟩) hP hD hS hpk (fun H1 locs1 hP1 hD1 hS1 => kk hok H1 locs1 ls hP1 hD1 hS1 hl)
theorem r_callS {y : MethodName} {bytes : ByteArray} {maxL n ix : Nat} {ret : Option FieldType} {rm : Room} {As rest : List Value} {v : Option Value} {c0 c1 ws' : va_W}  (hM : ∀ l, Con Z l y bytes maxL ret rm (As) c0 v c1) (q : Cond.methodLink own ix y ∈ lw_tb) (mo : mSo y bytes maxL n ret) (hpk : xPk ws ws' c0 c1) (hR : rm.frames + 1 ≤ R.frames ∧ 8 + (maxL + 11) + rm.locals ≤ R.locals) (hrm : rm.cells = 0 ∧ rm.slots = 0) (hkc : kc ≤ R.cells ∧ ks ≤ R.slots) (hAs : As.length = n) (hroom : (rest.map fun v => v.category).sum ≤ 8) (hst : st = As.reverse ++ rest) (d : decode cc pc = .ok (.invokestatic ix, 3)) (kk : AtK X Z R cc own nL kc ks ws' (pc + 3) lv (v.toList ++ rest)) : AtK X Z R cc own nL kc ks ws pc lv st := by
  obtain ⟨p, l, e, s, m, args, below, meth, c, Q, A, H0⟩ := X
  intro hok H locs ls hP hD hS hl
  obtain ⟨hx, hb, hts, hown, ⟨hK, hN⟩, hml⟩ := id hok
  subst hst
  have hD0 := hD
  have hpre := x_pre (av := As) ⟨hK, hN⟩ hP hD hpk
  exact x_call (va_runS ⟨hx, hb, hml, hown, hts⟩ (hM l) (⟨callB_of n hts (lw_GoodIn mo.2.2.1) rfl hrm.1 hrm.2 (hts _ mo.2.1) (hts _ q) mo.2.2.2 hR, hts _ mo.1⟩) ⟨x_blind _ _, hpre⟩ rfl hAs hl.1 rfl (lv_room hroom) d ⟨hkc.1, hkc.2⟩) hP hD hS hpk (fun H1 locs1 hP1 hD1 hS1 => kk hok H1 locs1 ls hP1 hD1 hS1 hl)
theorem r_callSN {y : MethodName} {bytes : ByteArray} {maxL n ix : Nat} {ret : Option FieldType} {rm : Room} {As rest : List Value} {v : Option Value} {c0 c1 ws' : va_W} {host : String}  (hM : ∀ l, Con Z l y bytes maxL ret rm (As) c0 v c1) (q : Cond.methodLinkNest own ix y host ∈ lw_ns) (mo : mSo y bytes maxL n ret) (hpk : xPk ws ws' c0 c1) (hR : rm.frames + 1 ≤ R.frames ∧ 8 + (maxL + 11) + rm.locals ≤ R.locals) (hrm : rm.cells = 0 ∧ rm.slots = 0) (hkc : kc ≤ R.cells ∧ ks ≤ R.slots) (hAs : As.length = n) (hroom : (rest.map fun v => v.category).sum ≤ 8) (hst : st = As.reverse ++ rest) (d : decode cc pc = .ok (.invokestatic ix, 3)) (kk : AtK X Z R cc own nL kc ks ws' (pc + 3) lv (v.toList ++ rest)) : AtK X Z R cc own nL kc ks ws pc lv st := by
  obtain ⟨p, l, e, s, m, args, below, meth, c, Q, A, H0⟩ := X
  intro hok H locs ls hP hD hS hl
  obtain ⟨hx, hb, hts, hown, ⟨hK, hN⟩, hml⟩ := id hok
  subst hst
  have hD0 := hD
  have hpre := x_pre (av := As) ⟨hK, hN⟩ hP hD hpk
  exact x_call (va_runSN ⟨hx, hb, hml, hown, hts⟩ (hM l) (⟨va_cnB n hts (lw_GoodIn mo.2.2.1) rfl hrm.1 hrm.2 (hN _ q) (hts _ mo.2.1) mo.2.2.2 hR, hts _ mo.1, trivial⟩) ⟨x_blind _ _, hpre⟩ rfl hAs hl.1 rfl (lv_room hroom) d ⟨hkc.1, hkc.2⟩) hP hD hS hpk (fun H1 locs1 hP1 hD1 hS1 => kk hok H1 locs1 ls hP1 hD1 hS1 hl)
/-- what is known of the end: the answer v and the cells ws' -/
def endsX (X : CX) (Z : GZ) (ret : Option FieldType) (v : Option Value) (ws' : va_W) : Prop := match X with
  | (_, _, _, s, _, args, below, meth, _, Q, A, H0) => meth.sig.returnType = ret ∧ meth.locks = false ∧ H0 = s.heap ∧ Q = MQ below (xQ Z v ws' A) args s 0 0 A
theorem r_zret {ret : FieldType} {x : Int32} (hE : endsX X Z (some ret) (some (.int x)) ws) (hn : narrow ret (.int x) = .int x) (d : decode cc pc = .ok (.ireturn, 1)) : AtK X Z R cc own nL 0 0 ws pc lv [.int x] := by
  obtain ⟨p, l, e, s, m, args, below, meth, c, Q, A, H0⟩ := X
  intro hok H locs ls hP hD hS hl
  obtain ⟨hx, hb, hts, hown, ⟨hK, hN⟩, hml⟩ := id hok
  obtain ⟨hr, hlk, rfl, rfl⟩ := hE
  exact W.zret hx hb hr hn (fun t ht hW => ⟨⟨rfl, by rw [ht]; exact hP⟩, hS.F ht⟩) hS.2.2 d hlk
theorem r_iret {x : Int32} (hE : endsX X Z (some .int) (some (.int x)) ws) (d : decode cc pc = .ok (.ireturn, 1)) : AtK X Z R cc own nL 0 0 ws pc lv [.int x] := r_zret hE rfl d
theorem x_nei {x v : Int32} {n : Int} (hv : v.toInt = n) (h : ¬ x = v) : ¬ x.toInt = n := fun e => h (Int32.toInt_inj.mp (e.trans hv.symm))
theorem bzn {x : Int32} (h : x = 0 ∨ x = 1) : narrow .boolean (.int x) = .int x ∧ fits .boolean (.int x) = true := by
  rcases h with rfl | rfl <;> exact ⟨by decide, by decide⟩
theorem r_bret {x : Int32} (hE : endsX X Z (some .boolean) (some (.int x)) ws) (hz : x = 0 ∨ x = 1) (d : decode cc pc = .ok (.ireturn, 1)) : AtK X Z R cc own nL 0 0 ws pc lv [.int x] := r_zret hE (bzn hz).1 d
theorem r_vret (hE : endsX X Z none none ws) (d : decode cc pc = .ok (.return_, 1)) : AtK X Z R cc own nL 0 0 ws pc lv [] := by
  obtain ⟨p, l, e, s, m, args, below, meth, c, Q, A, H0⟩ := X
  intro hok H locs ls hP hD hS hl
  obtain ⟨hx, hb, hts, hown, ⟨hK, hN⟩, hml⟩ := id hok
  obtain ⟨hr, hlk, rfl, rfl⟩ := hE
  exact W.vret hx hb hr (fun t ht hW => ⟨⟨rfl, by rw [ht]; exact hP⟩, hS.F ht⟩) hS.2.2 d hlk
theorem r_aret {C : String} {x : Nat} (hE : endsX X Z (some (.object C)) (some (.ref x)) ws) (d : decode cc pc = .ok (.areturn, 1)) : AtK X Z R cc own nL 0 0 ws pc lv [.ref x] := by
  obtain ⟨p, l, e, s, m, args, below, meth, c, Q, A, H0⟩ := X
  intro hok H locs ls hP hD hS hl
  obtain ⟨hx, hb, hts, hown, ⟨hK, hN⟩, hml⟩ := id hok
  obtain ⟨hr, hlk, rfl, rfl⟩ := hE
  exact W.aret hx hb hr (Or.inl ⟨_, rfl⟩) (Or.inr ⟨_, rfl⟩) (fun t ht hW => ⟨⟨rfl, by rw [ht]; exact hP⟩, hS.F ht⟩) hS.2.2 d hlk
theorem r_aretq {C : String} {v : Value} (hE : endsX X Z (some (.object C)) (some v) ws) (hv : v = .null ∨ ∃ a, v = .ref a) (d : decode cc pc = .ok (.areturn, 1)) : AtK X Z R cc own nL 0 0 ws pc lv [v] := by
  obtain ⟨p, l, e, s, m, args, below, meth, c, Q, A, H0⟩ := X
  intro hok H locs ls hP hD hS hl
  obtain ⟨hx, hb, hts, hown, hK, hml⟩ := id hok
  obtain ⟨hr, hlk, rfl, rfl⟩ := hE
  exact W.aret hx hb hr (Or.inl ⟨_, rfl⟩) hv (fun t ht hW => ⟨⟨rfl, by rw [ht]; exact hP⟩, hS.F ht⟩) hS.2.2 d hlk
end KT2
/-- a contract, out of the walk from the method's first instruction -/
theorem Con.of {Z : GZ} {l : Launch} {y : MethodName} {c : ByteArray} {n : Nat} {ret : Option FieldType} {rm : Room} {av : List Value} {ws : va_W} {v : Option Value} {ws' : va_W} (hy : plainName y.cls = true) (hn : (lg_sl av).length ≤ n)
    (body : ∀ X : CX, endsX X Z ret v ws' → AtK X Z rm c y.cls n 0 0 ws 0 (lv_args 0 av) []) : Con Z l y c n ret rm av ws v ws' := by
  refine Met.ofW (cc := c) (maxL := n) (ret := ret) hy rfl ?_
  intro p e s m args below meth cd s₁ B hml hv
  obtain ⟨rfl, hP, hK, hD0⟩ := hv
  have hts := atoms_spec (ws := wsY y c n ret) B.pre
  have hown : s.vm.findClass y.cls = some m.cls := findClass_of_methodNamed B.named
  have hl := lv_entry av hn
  rw [lg_entry_eq]
  have hD : va_D (xA ws) ws := ⟨hD0.1, fun k q hk => ⟨k, q.2, hk⟩⟩
  exact body (p, l, e, s, m, av.toArray, below, meth, cd, _, xA ws, s.heap) ⟨B.returns, B.notSynchronized, rfl, rfl⟩ ⟨B.exec, B.bytes, fun w h => hts w (List.mem_cons_of_mem _ h), hown, hK, hml⟩ s.heap [] _ hP hD va_S.rf hl
end
section
/-! the worlds: what the cells of an object hold -/
def wF (Z : GZ) (h hw he : Nat) (w er fl : Nat → Int32) : va_W := [(h, .inr (0, [.ref hw, .ref he, .int (fl 0), .int (fl 1)])), (hw, .inl (Z.2.1, 110, .inl w)), (he, .inl (Z.2.1, 5, .inl er))]
def wM (_ : GZ) (h : Nat) (me : Nat → Int32) : va_W := [(h, .inr (3, [.int (me 0), .int (me 1), .int (me 2), .int (me 3), .int (me 4), .int (me 5)]))]
def wP (Z : GZ) (a : Nat → Nat) (w er fl me p pr : Nat → Int32) : va_W := [(a 0, .inr (5, [.ref (a 1), .ref (a 4), .ref (a 5), .int (pr 0), .int (pr 1), .int (pr 2), .int (pr 3)])), (a 1, .inr (0, [.ref (a 2), .ref (a 3), .int (fl 0), .int (fl 1)])), (a 2, .inl (Z.2.1, 110, .inl w)), (a 3, .inl (Z.2.1, 5, .inl er)), (a 4, .inr (3, [.int (me 0), .int (me 1), .int (me 2), .int (me 3), .int (me 4), .int (me 5)])), (a 5, .inl (Z.2.1, 4, .inl p))]
def wJ (Z : GZ) (hj hd : Nat) (d : Nat → Int32) (jc : Int32) : va_W := [(hj, .inr (2, [.ref hd, .int jc])), (hd, .inl (Z.2.1, 120, .inl d))]
def wX (Z : GZ) (a : Nat → Nat) (m ps im ik asd rb rp mv : Nat → Int32) : va_W := [(a 0, .inr (7, [.ref (a 1), .ref (a 2), .int (mv 0), .ref (a 3), .ref (a 4), .ref (a 5), .ref (a 6), .ref (a 7), .int (mv 1)])), (a 1, .inl (Z.2.1, 131, .inl m)), (a 2, .inl (Z.2.1, 1048, .inl ps)), (a 3, .inl (Z.2.1, 262, .inl im)), (a 4, .inl (Z.2.1, 2, .inl ik)), (a 5, .inl (Z.2.1, 131, .inl asd)), (a 6, .inl (Z.2.1, 20, .inl rb)), (a 7, .inl (Z.2.1, 20, .inl rp))]
def wS (Z : GZ) (hq hs : Nat) (AD : Nat → Nat → Nat) (pv : Nat → Int32) : va_W := [(hq, .inr (4, [.ref hs, .int (pv 0), .int (pv 1)])), (hs, .inl (Z.2.2.1, 8, .inr (.inr (.inr (.inr (fun k => some (AD k 0)))))))]
def wQ (Z : GZ) (hq hs : Nat) (AD : Nat → Nat → Nat) (pv : Nat → Int32) (W8 E8 F8 M8 P8 R8 : Nat → Nat → Int32) : va_W := wS Z hq hs AD pv ++ (wP Z (AD 0) (W8 0) (E8 0) (F8 0) (M8 0) (P8 0) (R8 0) ++ (wP Z (AD 1) (W8 1) (E8 1) (F8 1) (M8 1) (P8 1) (R8 1) ++ (wP Z (AD 2) (W8 2) (E8 2) (F8 2) (M8 2) (P8 2) (R8 2) ++ (wP Z (AD 3) (W8 3) (E8 3) (F8 3) (M8 3) (P8 3) (R8 3) ++ (wP Z (AD 4) (W8 4) (E8 4) (F8 4) (M8 4) (P8 4) (R8 4) ++ (wP Z (AD 5) (W8 5) (E8 5) (F8 5) (M8 5) (P8 5) (R8 5) ++ (wP Z (AD 6) (W8 6) (E8 6) (F8 6) (M8 6) (P8 6) (R8 6) ++ (wP Z (AD 7) (W8 7) (E8 7) (F8 7) (M8 7) (P8 7) (R8 7)))))))))
theorem wQ_dom {Z : GZ} {hq hs : Nat} {AD : Nat → Nat → Nat} {pv pw : Nat → Int32} {W8 E8 F8 M8 P8 R8 W9 E9 F9 M9 P9 R9 : Nat → Nat → Int32} : (wQ Z hq hs AD pw W9 E9 F9 M9 P9 R9).map Prod.fst = (wQ Z hq hs AD pv W8 E8 F8 M8 P8 R8).map Prod.fst := rfl
def wI (Z : GZ) (hi : Nat) (IH : Nat → Nat) (IA : Nat → Nat → Nat) (fi : Nat → Nat → Int32) (WI EI FI MI PI RI : Nat → Nat → Int32) : va_W := (hi, .inl (Z.2.2.2, 2, .inr (.inr (.inr (.inr (fun k => some (IH k))))))) :: (IH 0, .inr (1, [.ref (IA 0 0), .int (fi 0 0)])) :: (IH 1, .inr (1, [.ref (IA 1 0), .int (fi 1 0)])) :: (wP Z (IA 0) (WI 0) (EI 0) (FI 0) (MI 0) (PI 0) (RI 0) ++ wP Z (IA 1) (WI 1) (EI 1) (FI 1) (MI 1) (PI 1) (RI 1))
def wQ1 (_ : GZ) (hq hs : Nat) (pv : Nat → Int32) : va_W := [(hq, .inr (4, [.ref hs, .int (pv 0), .int (pv 1)]))]
def wI0 (Z : GZ) (hi : Nat) (IH : Nat → Nat) : va_W := [(hi, .inl (Z.2.2.2, 2, .inr (.inr (.inr (.inr (fun k => some (IH k)))))))]
def wO (_ : GZ) (hx b : Nat) (ff : Nat → Int32) : va_W := [(hx, .inr (1, [.ref b, .int (ff 0)]))]
def wT (_ : GZ) (t pr tr hj hq hi : Nat) : va_W := [(t, .inr (6, [.ref pr, .ref tr, .ref hj, .ref hq, .ref hi]))]
theorem qw_195 : Cond.methodLink RX6 67 yX6_isWithin ∈ lw_tb := lw_up (List.mem_of_getElem? (i := 195) (by decide +kernel)) rfl
theorem qw_13 : Cond.initialized RX6 ∈ lw_tb := lw_up (List.mem_of_getElem? (i := 13) (by decide +kernel)) rfl
theorem qw_197 : Cond.code yX6_isWithin cX6_isWithin 3 (some .boolean) ∈ lw_tb := lw_up (List.mem_of_getElem? (i := 197) (by decide +kernel)) rfl
theorem qw_196 : Cond.static yX6_isWithin ∈ lw_tb := lw_up (List.mem_of_getElem? (i := 196) (by decide +kernel)) rfl
theorem qw_275 : Cond.constant RX6 214 65521 ∈ lw_tb := lw_up (List.mem_of_getElem? (i := 275) (by decide +kernel)) rfl
theorem qw_45 : Cond.fieldLink RX0 18 RX0 "done" "I" ∈ lw_tb := lw_up (List.mem_of_getElem? (i := 45) (by decide +kernel)) rfl
theorem qw_47 : Cond.fieldLink RX0 22 RX0 "left" "I" ∈ lw_tb := lw_up (List.mem_of_getElem? (i := 47) (by decide +kernel)) rfl
theorem qw_42 : Cond.constant RX0 25 65535 ∈ lw_tb := lw_up (List.mem_of_getElem? (i := 42) (by decide +kernel)) rfl
theorem qw_43 : Cond.fieldLink RX0 9 RX0 "words" "[I" ∈ lw_tb := lw_up (List.mem_of_getElem? (i := 43) (by decide +kernel)) rfl
theorem qw_280 : Cond.methodLink RX0 32 yX0_spendOperation ∈ lw_tb := lw_up (List.mem_of_getElem? (i := 280) (by decide +kernel)) rfl
theorem qw_15 : Cond.initialized RX0 ∈ lw_tb := lw_up (List.mem_of_getElem? (i := 15) (by decide +kernel)) rfl
theorem qw_283 : Cond.code yX0_spendOperation cX0_spendOperation 1 (some .boolean) ∈ lw_tb := lw_up (List.mem_of_getElem? (i := 283) (by decide +kernel)) rfl
theorem qw_282 : Cond.instanceMethod yX0_spendOperation ∈ lw_tb := lw_up (List.mem_of_getElem? (i := 282) (by decide +kernel)) rfl
theorem qw_4 : Cond.selects RX0 yX0_spendOperation yX0_spendOperation ∈ lw_tb := lw_up (List.mem_of_getElem? (i := 4) (by decide +kernel)) rfl
theorem qw_44 : Cond.fieldLink RX0 15 RX0 "erasures" "[I" ∈ lw_tb := lw_up (List.mem_of_getElem? (i := 44) (by decide +kernel)) rfl
theorem qw_328 : Cond.methodLink RX0 36 yX0_read ∈ lw_tb := lw_up (List.mem_of_getElem? (i := 328) (by decide +kernel)) rfl
theorem qw_271 : Cond.code yX0_read cX0_read 4 (some .int) ∈ lw_tb := lw_up (List.mem_of_getElem? (i := 271) (by decide +kernel)) rfl
theorem qw_269 : Cond.instanceMethod yX0_read ∈ lw_tb := lw_up (List.mem_of_getElem? (i := 269) (by decide +kernel)) rfl
theorem qw_270 : Cond.selects RX0 yX0_read yX0_read ∈ lw_tb := lw_up (List.mem_of_getElem? (i := 270) (by decide +kernel)) rfl
theorem qw_403 : Cond.methodLinkNest RX0 40 yX6_headerCheck "TicketJournal" ∈ lw_ns := lw_un (List.mem_of_getElem? (i := 403) (by decide +kernel)) rfl
theorem qw_274 : Cond.code yX6_headerCheck cX6_headerCheck 5 (some .int) ∈ lw_tb := lw_up (List.mem_of_getElem? (i := 274) (by decide +kernel)) rfl
theorem qw_273 : Cond.static yX6_headerCheck ∈ lw_tb := lw_up (List.mem_of_getElem? (i := 273) (by decide +kernel)) rfl
theorem qw_324 : Cond.methodLink RX0 48 yX0_recordWord ∈ lw_tb := lw_up (List.mem_of_getElem? (i := 324) (by decide +kernel)) rfl
theorem qw_327 : Cond.code yX0_recordWord cX0_recordWord 4 (some .int) ∈ lw_tb := lw_up (List.mem_of_getElem? (i := 327) (by decide +kernel)) rfl
theorem qw_325 : Cond.instanceMethod yX0_recordWord ∈ lw_tb := lw_up (List.mem_of_getElem? (i := 325) (by decide +kernel)) rfl
theorem qw_326 : Cond.selects RX0 yX0_recordWord yX0_recordWord ∈ lw_tb := lw_up (List.mem_of_getElem? (i := 326) (by decide +kernel)) rfl
theorem qw_320 : Cond.methodLink RX0 44 yX0_isEmpty ∈ lw_tb := lw_up (List.mem_of_getElem? (i := 320) (by decide +kernel)) rfl
theorem qw_323 : Cond.code yX0_isEmpty cX0_isEmpty 4 (some .boolean) ∈ lw_tb := lw_up (List.mem_of_getElem? (i := 323) (by decide +kernel)) rfl
theorem qw_322 : Cond.instanceMethod yX0_isEmpty ∈ lw_tb := lw_up (List.mem_of_getElem? (i := 322) (by decide +kernel)) rfl
theorem qw_6 : Cond.selects RX0 yX0_isEmpty yX0_isEmpty ∈ lw_tb := lw_up (List.mem_of_getElem? (i := 6) (by decide +kernel)) rfl
theorem qw_329 : Cond.methodLinkNest RX0 52 yX6_recordCheck "TicketJournal" ∈ lw_ns := lw_un (List.mem_of_getElem? (i := 329) (by decide +kernel)) rfl
theorem qw_294 : Cond.code yX6_recordCheck cX6_recordCheck 4 (some .int) ∈ lw_tb := lw_up (List.mem_of_getElem? (i := 294) (by decide +kernel)) rfl
theorem qw_293 : Cond.static yX6_recordCheck ∈ lw_tb := lw_up (List.mem_of_getElem? (i := 293) (by decide +kernel)) rfl
theorem qw_404 : Cond.methodLink RX0 60 yX0_stateOf ∈ lw_tb := lw_up (List.mem_of_getElem? (i := 404) (by decide +kernel)) rfl
theorem qw_319 : Cond.code yX0_stateOf cX0_stateOf 4 (some .int) ∈ lw_tb := lw_up (List.mem_of_getElem? (i := 319) (by decide +kernel)) rfl
theorem qw_317 : Cond.instanceMethod yX0_stateOf ∈ lw_tb := lw_up (List.mem_of_getElem? (i := 317) (by decide +kernel)) rfl
theorem qw_318 : Cond.selects RX0 yX0_stateOf yX0_stateOf ∈ lw_tb := lw_up (List.mem_of_getElem? (i := 318) (by decide +kernel)) rfl
theorem qw_399 : Cond.methodLink RX0 56 yX0_isWhole ∈ lw_tb := lw_up (List.mem_of_getElem? (i := 399) (by decide +kernel)) rfl
theorem qw_402 : Cond.code yX0_isWhole cX0_isWhole 3 (some .boolean) ∈ lw_tb := lw_up (List.mem_of_getElem? (i := 402) (by decide +kernel)) rfl
theorem qw_400 : Cond.instanceMethod yX0_isWhole ∈ lw_tb := lw_up (List.mem_of_getElem? (i := 400) (by decide +kernel)) rfl
theorem qw_401 : Cond.selects RX0 yX0_isWhole yX0_isWhole ∈ lw_tb := lw_up (List.mem_of_getElem? (i := 401) (by decide +kernel)) rfl
theorem qw_395 : Cond.methodLink RX0 63 yX0_tallyIn ∈ lw_tb := lw_up (List.mem_of_getElem? (i := 395) (by decide +kernel)) rfl
theorem qw_398 : Cond.code yX0_tallyIn cX0_tallyIn 5 (some .int) ∈ lw_tb := lw_up (List.mem_of_getElem? (i := 398) (by decide +kernel)) rfl
theorem qw_396 : Cond.instanceMethod yX0_tallyIn ∈ lw_tb := lw_up (List.mem_of_getElem? (i := 396) (by decide +kernel)) rfl
theorem qw_397 : Cond.selects RX0 yX0_tallyIn yX0_tallyIn ∈ lw_tb := lw_up (List.mem_of_getElem? (i := 397) (by decide +kernel)) rfl
theorem qw_421 : Cond.methodLink RX0 66 yX0_isFollowed ∈ lw_tb := lw_up (List.mem_of_getElem? (i := 421) (by decide +kernel)) rfl
theorem qw_424 : Cond.code yX0_isFollowed cX0_isFollowed 4 (some .boolean) ∈ lw_tb := lw_up (List.mem_of_getElem? (i := 424) (by decide +kernel)) rfl
theorem qw_423 : Cond.instanceMethod yX0_isFollowed ∈ lw_tb := lw_up (List.mem_of_getElem? (i := 423) (by decide +kernel)) rfl
theorem qw_7 : Cond.selects RX0 yX0_isFollowed yX0_isFollowed ∈ lw_tb := lw_up (List.mem_of_getElem? (i := 7) (by decide +kernel)) rfl
theorem qw_248 : Cond.methodLink RX0 26 arraycopyName ∈ lw_tb := lw_up (List.mem_of_getElem? (i := 248) (by decide +kernel)) rfl
theorem qw_250 : Cond.native arraycopyName ∈ lw_tb := lw_up (List.mem_of_getElem? (i := 250) (by decide +kernel)) rfl
theorem qw_249 : Cond.static arraycopyName ∈ lw_tb := lw_up (List.mem_of_getElem? (i := 249) (by decide +kernel)) rfl
theorem qw_20 : Cond.initialized "java/lang/System" ∈ lw_tb := lw_up (List.mem_of_getElem? (i := 20) (by decide +kernel)) rfl
theorem qw_65 : Cond.fieldLink RX3 9 RX3 "current" "I" ∈ lw_tb := lw_up (List.mem_of_getElem? (i := 65) (by decide +kernel)) rfl
theorem qw_68 : Cond.fieldLink RX3 15 RX3 "next" "I" ∈ lw_tb := lw_up (List.mem_of_getElem? (i := 68) (by decide +kernel)) rfl
theorem qw_71 : Cond.fieldLink RX3 18 RX3 "number" "I" ∈ lw_tb := lw_up (List.mem_of_getElem? (i := 71) (by decide +kernel)) rfl
theorem qw_74 : Cond.fieldLink RX3 21 RX3 "sum" "I" ∈ lw_tb := lw_up (List.mem_of_getElem? (i := 74) (by decide +kernel)) rfl
theorem qw_77 : Cond.fieldLink RX3 24 RX3 "tickets" "I" ∈ lw_tb := lw_up (List.mem_of_getElem? (i := 77) (by decide +kernel)) rfl
theorem qw_80 : Cond.fieldLink RX3 27 RX3 "paper" "I" ∈ lw_tb := lw_up (List.mem_of_getElem? (i := 80) (by decide +kernel)) rfl
theorem qw_307 : Cond.methodLinkNest RX3 55 yX6_lengthOf "TicketJournal" ∈ lw_ns := lw_un (List.mem_of_getElem? (i := 307) (by decide +kernel)) rfl
theorem qw_231 : Cond.code yX6_lengthOf cX6_lengthOf 1 (some .int) ∈ lw_tb := lw_up (List.mem_of_getElem? (i := 231) (by decide +kernel)) rfl
theorem qw_230 : Cond.static yX6_lengthOf ∈ lw_tb := lw_up (List.mem_of_getElem? (i := 230) (by decide +kernel)) rfl
theorem qw_430 : Cond.methodLink RX3 44 yX0_stateOf ∈ lw_tb := lw_up (List.mem_of_getElem? (i := 430) (by decide +kernel)) rfl
theorem qw_431 : Cond.methodLink RX3 47 yX0_recordWord ∈ lw_tb := lw_up (List.mem_of_getElem? (i := 431) (by decide +kernel)) rfl
theorem qw_432 : Cond.methodLink RX3 51 yX3_learn ∈ lw_tb := lw_up (List.mem_of_getElem? (i := 432) (by decide +kernel)) rfl
theorem qw_16 : Cond.initialized RX3 ∈ lw_tb := lw_up (List.mem_of_getElem? (i := 16) (by decide +kernel)) rfl
theorem qw_306 : Cond.code yX3_learn cX3_learn 4 none ∈ lw_tb := lw_up (List.mem_of_getElem? (i := 306) (by decide +kernel)) rfl
theorem qw_304 : Cond.instanceMethod yX3_learn ∈ lw_tb := lw_up (List.mem_of_getElem? (i := 304) (by decide +kernel)) rfl
theorem qw_305 : Cond.selects RX3 yX3_learn yX3_learn ∈ lw_tb := lw_up (List.mem_of_getElem? (i := 305) (by decide +kernel)) rfl
theorem qw_417 : Cond.methodLink RX3 30 yX0_newestBlock ∈ lw_tb := lw_up (List.mem_of_getElem? (i := 417) (by decide +kernel)) rfl
theorem qw_420 : Cond.code yX0_newestBlock cX0_newestBlock 2 (some .int) ∈ lw_tb := lw_up (List.mem_of_getElem? (i := 420) (by decide +kernel)) rfl
theorem qw_418 : Cond.instanceMethod yX0_newestBlock ∈ lw_tb := lw_up (List.mem_of_getElem? (i := 418) (by decide +kernel)) rfl
theorem qw_419 : Cond.selects RX0 yX0_newestBlock yX0_newestBlock ∈ lw_tb := lw_up (List.mem_of_getElem? (i := 419) (by decide +kernel)) rfl
theorem qw_425 : Cond.methodLink RX3 36 yX0_nextPlaceIn ∈ lw_tb := lw_up (List.mem_of_getElem? (i := 425) (by decide +kernel)) rfl
theorem qw_428 : Cond.code yX0_nextPlaceIn cX0_nextPlaceIn 3 (some .int) ∈ lw_tb := lw_up (List.mem_of_getElem? (i := 428) (by decide +kernel)) rfl
theorem qw_426 : Cond.instanceMethod yX0_nextPlaceIn ∈ lw_tb := lw_up (List.mem_of_getElem? (i := 426) (by decide +kernel)) rfl
theorem qw_427 : Cond.selects RX0 yX0_nextPlaceIn yX0_nextPlaceIn ∈ lw_tb := lw_up (List.mem_of_getElem? (i := 427) (by decide +kernel)) rfl
theorem qw_429 : Cond.methodLink RX3 40 yX0_read ∈ lw_tb := lw_up (List.mem_of_getElem? (i := 429) (by decide +kernel)) rfl
theorem qw_96 : Cond.fieldLink RX5 12 RX5 "flash" "LTicketJournal$Flash;" ∈ lw_tb := lw_up (List.mem_of_getElem? (i := 96) (by decide +kernel)) rfl
theorem qw_244 : Cond.methodLink RX5 43 yX0_copyFrom ∈ lw_tb := lw_up (List.mem_of_getElem? (i := 244) (by decide +kernel)) rfl
theorem qw_247 : Cond.code yX0_copyFrom cX0_copyFrom 2 none ∈ lw_tb := lw_up (List.mem_of_getElem? (i := 247) (by decide +kernel)) rfl
theorem qw_245 : Cond.instanceMethod yX0_copyFrom ∈ lw_tb := lw_up (List.mem_of_getElem? (i := 245) (by decide +kernel)) rfl
theorem qw_246 : Cond.selects RX0 yX0_copyFrom yX0_copyFrom ∈ lw_tb := lw_up (List.mem_of_getElem? (i := 246) (by decide +kernel)) rfl
theorem qw_98 : Cond.fieldLink RX5 21 RX5 "memory" "LTicketJournal$Memory;" ∈ lw_tb := lw_up (List.mem_of_getElem? (i := 98) (by decide +kernel)) rfl
theorem qw_251 : Cond.methodLink RX5 47 yX3_copyFrom ∈ lw_tb := lw_up (List.mem_of_getElem? (i := 251) (by decide +kernel)) rfl
theorem qw_254 : Cond.code yX3_copyFrom cX3_copyFrom 2 none ∈ lw_tb := lw_up (List.mem_of_getElem? (i := 254) (by decide +kernel)) rfl
theorem qw_252 : Cond.instanceMethod yX3_copyFrom ∈ lw_tb := lw_up (List.mem_of_getElem? (i := 252) (by decide +kernel)) rfl
theorem qw_253 : Cond.selects RX3 yX3_copyFrom yX3_copyFrom ∈ lw_tb := lw_up (List.mem_of_getElem? (i := 253) (by decide +kernel)) rfl
theorem qw_100 : Cond.fieldLink RX5 25 RX5 "prices" "[I" ∈ lw_tb := lw_up (List.mem_of_getElem? (i := 100) (by decide +kernel)) rfl
theorem qw_255 : Cond.methodLink RX5 50 arraycopyName ∈ lw_tb := lw_up (List.mem_of_getElem? (i := 255) (by decide +kernel)) rfl
theorem qw_101 : Cond.fieldLink RX5 29 RX5 "on" "Z" ∈ lw_tb := lw_up (List.mem_of_getElem? (i := 101) (by decide +kernel)) rfl
theorem qw_103 : Cond.fieldLink RX5 33 RX5 "time" "I" ∈ lw_tb := lw_up (List.mem_of_getElem? (i := 103) (by decide +kernel)) rfl
theorem qw_105 : Cond.fieldLink RX5 37 RX5 "there" "I" ∈ lw_tb := lw_up (List.mem_of_getElem? (i := 105) (by decide +kernel)) rfl
theorem qw_107 : Cond.fieldLink RX5 40 RX5 "printed" "I" ∈ lw_tb := lw_up (List.mem_of_getElem? (i := 107) (by decide +kernel)) rfl
theorem qw_221 : Cond.methodLinkNest RX5 56 yX6_isSort "TicketJournal" ∈ lw_ns := lw_un (List.mem_of_getElem? (i := 221) (by decide +kernel)) rfl
theorem qw_223 : Cond.code yX6_isSort cX6_isSort 1 (some .boolean) ∈ lw_tb := lw_up (List.mem_of_getElem? (i := 223) (by decide +kernel)) rfl
theorem qw_222 : Cond.static yX6_isSort ∈ lw_tb := lw_up (List.mem_of_getElem? (i := 222) (by decide +kernel)) rfl
theorem qw_75 : Cond.fieldLinkNest RX5 60 RX3 "sum" "I" "TicketJournal" ∈ lw_ns := lw_un (List.mem_of_getElem? (i := 75) (by decide +kernel)) rfl
theorem qw_224 : Cond.methodLink RX5 63 yX5_priceOf ∈ lw_tb := lw_up (List.mem_of_getElem? (i := 224) (by decide +kernel)) rfl
theorem qw_14 : Cond.initialized RX5 ∈ lw_tb := lw_up (List.mem_of_getElem? (i := 14) (by decide +kernel)) rfl
theorem qw_227 : Cond.code yX5_priceOf cX5_priceOf 2 (some .int) ∈ lw_tb := lw_up (List.mem_of_getElem? (i := 227) (by decide +kernel)) rfl
theorem qw_225 : Cond.instanceMethod yX5_priceOf ∈ lw_tb := lw_up (List.mem_of_getElem? (i := 225) (by decide +kernel)) rfl
theorem qw_226 : Cond.selects RX5 yX5_priceOf yX5_priceOf ∈ lw_tb := lw_up (List.mem_of_getElem? (i := 226) (by decide +kernel)) rfl
theorem qw_228 : Cond.constant RX5 67 60000 ∈ lw_tb := lw_up (List.mem_of_getElem? (i := 228) (by decide +kernel)) rfl
theorem qw_81 : Cond.fieldLinkNest RX5 68 RX3 "paper" "I" "TicketJournal" ∈ lw_ns := lw_un (List.mem_of_getElem? (i := 81) (by decide +kernel)) rfl
theorem qw_229 : Cond.methodLinkNest RX5 71 yX6_lengthOf "TicketJournal" ∈ lw_ns := lw_un (List.mem_of_getElem? (i := 229) (by decide +kernel)) rfl
theorem qw_299 : Cond.methodLink RX5 100 yX3_forget ∈ lw_tb := lw_up (List.mem_of_getElem? (i := 299) (by decide +kernel)) rfl
theorem qw_302 : Cond.code yX3_forget cX3_forget 1 none ∈ lw_tb := lw_up (List.mem_of_getElem? (i := 302) (by decide +kernel)) rfl
theorem qw_300 : Cond.instanceMethod yX3_forget ∈ lw_tb := lw_up (List.mem_of_getElem? (i := 300) (by decide +kernel)) rfl
theorem qw_301 : Cond.selects RX3 yX3_forget yX3_forget ∈ lw_tb := lw_up (List.mem_of_getElem? (i := 301) (by decide +kernel)) rfl
theorem qw_413 : Cond.methodLink RX5 103 yX3_recall ∈ lw_tb := lw_up (List.mem_of_getElem? (i := 413) (by decide +kernel)) rfl
theorem qw_416 : Cond.code yX3_recall cX3_recall 3 none ∈ lw_tb := lw_up (List.mem_of_getElem? (i := 416) (by decide +kernel)) rfl
theorem qw_414 : Cond.instanceMethod yX3_recall ∈ lw_tb := lw_up (List.mem_of_getElem? (i := 414) (by decide +kernel)) rfl
theorem qw_415 : Cond.selects RX3 yX3_recall yX3_recall ∈ lw_tb := lw_up (List.mem_of_getElem? (i := 415) (by decide +kernel)) rfl
theorem qw_66 : Cond.fieldLinkNest RX5 84 RX3 "current" "I" "TicketJournal" ∈ lw_ns := lw_un (List.mem_of_getElem? (i := 66) (by decide +kernel)) rfl
theorem qw_69 : Cond.fieldLinkNest RX5 81 RX3 "next" "I" "TicketJournal" ∈ lw_ns := lw_un (List.mem_of_getElem? (i := 69) (by decide +kernel)) rfl
theorem qw_268 : Cond.methodLink RX5 120 yX0_read ∈ lw_tb := lw_up (List.mem_of_getElem? (i := 268) (by decide +kernel)) rfl
theorem qw_79 : Cond.fieldLinkNest RX5 123 RX3 "tickets" "I" "TicketJournal" ∈ lw_ns := lw_un (List.mem_of_getElem? (i := 79) (by decide +kernel)) rfl
theorem qw_72 : Cond.fieldLinkNest RX5 74 RX3 "number" "I" "TicketJournal" ∈ lw_ns := lw_un (List.mem_of_getElem? (i := 72) (by decide +kernel)) rfl
theorem qw_272 : Cond.methodLinkNest RX5 126 yX6_headerCheck "TicketJournal" ∈ lw_ns := lw_un (List.mem_of_getElem? (i := 272) (by decide +kernel)) rfl
theorem qw_276 : Cond.methodLink RX5 130 yX0_erase ∈ lw_tb := lw_up (List.mem_of_getElem? (i := 276) (by decide +kernel)) rfl
theorem qw_279 : Cond.code yX0_erase cX0_erase 3 (some .boolean) ∈ lw_tb := lw_up (List.mem_of_getElem? (i := 279) (by decide +kernel)) rfl
theorem qw_277 : Cond.instanceMethod yX0_erase ∈ lw_tb := lw_up (List.mem_of_getElem? (i := 277) (by decide +kernel)) rfl
theorem qw_278 : Cond.selects RX0 yX0_erase yX0_erase ∈ lw_tb := lw_up (List.mem_of_getElem? (i := 278) (by decide +kernel)) rfl
theorem qw_284 : Cond.methodLink RX5 133 yX0_write ∈ lw_tb := lw_up (List.mem_of_getElem? (i := 284) (by decide +kernel)) rfl
theorem qw_287 : Cond.code yX0_write cX0_write 5 (some .boolean) ∈ lw_tb := lw_up (List.mem_of_getElem? (i := 287) (by decide +kernel)) rfl
theorem qw_285 : Cond.instanceMethod yX0_write ∈ lw_tb := lw_up (List.mem_of_getElem? (i := 285) (by decide +kernel)) rfl
theorem qw_286 : Cond.selects RX0 yX0_write yX0_write ∈ lw_tb := lw_up (List.mem_of_getElem? (i := 286) (by decide +kernel)) rfl
theorem qw_292 : Cond.methodLinkNest RX5 136 yX6_recordCheck "TicketJournal" ∈ lw_ns := lw_un (List.mem_of_getElem? (i := 292) (by decide +kernel)) rfl
theorem qw_295 : Cond.methodLink RX5 113 yX5_losePower ∈ lw_tb := lw_up (List.mem_of_getElem? (i := 295) (by decide +kernel)) rfl
theorem qw_298 : Cond.code yX5_losePower cX5_losePower 1 none ∈ lw_tb := lw_up (List.mem_of_getElem? (i := 298) (by decide +kernel)) rfl
theorem qw_296 : Cond.instanceMethod yX5_losePower ∈ lw_tb := lw_up (List.mem_of_getElem? (i := 296) (by decide +kernel)) rfl
theorem qw_297 : Cond.selects RX5 yX5_losePower yX5_losePower ∈ lw_tb := lw_up (List.mem_of_getElem? (i := 297) (by decide +kernel)) rfl
theorem qw_288 : Cond.methodLink RX5 110 yX5_fillPlace ∈ lw_tb := lw_up (List.mem_of_getElem? (i := 288) (by decide +kernel)) rfl
theorem qw_291 : Cond.code yX5_fillPlace cX5_fillPlace 7 (some .boolean) ∈ lw_tb := lw_up (List.mem_of_getElem? (i := 291) (by decide +kernel)) rfl
theorem qw_290 : Cond.instanceMethod yX5_fillPlace ∈ lw_tb := lw_up (List.mem_of_getElem? (i := 290) (by decide +kernel)) rfl
theorem qw_5 : Cond.selects RX5 yX5_fillPlace yX5_fillPlace ∈ lw_tb := lw_up (List.mem_of_getElem? (i := 5) (by decide +kernel)) rfl
theorem qw_303 : Cond.methodLink RX5 116 yX3_learn ∈ lw_tb := lw_up (List.mem_of_getElem? (i := 303) (by decide +kernel)) rfl
theorem qw_264 : Cond.methodLink RX5 106 yX5_beginBlock ∈ lw_tb := lw_up (List.mem_of_getElem? (i := 264) (by decide +kernel)) rfl
theorem qw_267 : Cond.code yX5_beginBlock cX5_beginBlock 5 (some .boolean) ∈ lw_tb := lw_up (List.mem_of_getElem? (i := 267) (by decide +kernel)) rfl
theorem qw_266 : Cond.instanceMethod yX5_beginBlock ∈ lw_tb := lw_up (List.mem_of_getElem? (i := 266) (by decide +kernel)) rfl
theorem qw_3 : Cond.selects RX5 yX5_beginBlock yX5_beginBlock ∈ lw_tb := lw_up (List.mem_of_getElem? (i := 3) (by decide +kernel)) rfl
theorem qw_260 : Cond.methodLink RX5 77 yX5_writeRecord ∈ lw_tb := lw_up (List.mem_of_getElem? (i := 260) (by decide +kernel)) rfl
theorem qw_263 : Cond.code yX5_writeRecord cX5_writeRecord 6 (some .boolean) ∈ lw_tb := lw_up (List.mem_of_getElem? (i := 263) (by decide +kernel)) rfl
theorem qw_262 : Cond.instanceMethod yX5_writeRecord ∈ lw_tb := lw_up (List.mem_of_getElem? (i := 262) (by decide +kernel)) rfl
theorem qw_2 : Cond.selects RX5 yX5_writeRecord yX5_writeRecord ∈ lw_tb := lw_up (List.mem_of_getElem? (i := 2) (by decide +kernel)) rfl
theorem qw_316 : Cond.methodLink RX5 87 yX0_stateOf ∈ lw_tb := lw_up (List.mem_of_getElem? (i := 316) (by decide +kernel)) rfl
theorem qw_330 : Cond.methodLink RX5 91 yX0_recordWord ∈ lw_tb := lw_up (List.mem_of_getElem? (i := 330) (by decide +kernel)) rfl
theorem qw_362 : Cond.methodLink RX5 95 Lib.Math.abs.name ∈ lw_tb := lw_up (List.mem_of_getElem? (i := 362) (by decide +kernel)) rfl
theorem qw_363 : Cond.static Lib.Math.abs.name ∈ lw_tb := lw_up (List.mem_of_getElem? (i := 363) (by decide +kernel)) rfl
theorem qw_21 : Cond.initialized "java/lang/Math" ∈ lw_tb := lw_up (List.mem_of_getElem? (i := 21) (by decide +kernel)) rfl
theorem qw_364 : Cond.code Lib.Math.abs.name Lib.Math.abs.code 1 (some .int) ∈ lw_tb := lw_up (List.mem_of_getElem? (i := 364) (by decide +kernel)) rfl
theorem qw_131 : Cond.fieldLink RX2 15 RX2 "count" "I" ∈ lw_tb := lw_up (List.mem_of_getElem? (i := 131) (by decide +kernel)) rfl
theorem qw_130 : Cond.fieldLink RX2 9 RX2 "details" "[I" ∈ lw_tb := lw_up (List.mem_of_getElem? (i := 130) (by decide +kernel)) rfl
theorem qw_477 : Cond.methodLink RX2 37 yX0_recordWord ∈ lw_tb := lw_up (List.mem_of_getElem? (i := 477) (by decide +kernel)) rfl
theorem qw_478 : Cond.methodLink RX2 41 yX2_setDetail ∈ lw_tb := lw_up (List.mem_of_getElem? (i := 478) (by decide +kernel)) rfl
theorem qw_17 : Cond.initialized RX2 ∈ lw_tb := lw_up (List.mem_of_getElem? (i := 17) (by decide +kernel)) rfl
theorem qw_481 : Cond.code yX2_setDetail cX2_setDetail 4 none ∈ lw_tb := lw_up (List.mem_of_getElem? (i := 481) (by decide +kernel)) rfl
theorem qw_480 : Cond.instanceMethod yX2_setDetail ∈ lw_tb := lw_up (List.mem_of_getElem? (i := 480) (by decide +kernel)) rfl
theorem qw_10 : Cond.selects RX2 yX2_setDetail yX2_setDetail ∈ lw_tb := lw_up (List.mem_of_getElem? (i := 10) (by decide +kernel)) rfl
theorem qw_472 : Cond.methodLink RX2 29 yX0_stateOf ∈ lw_tb := lw_up (List.mem_of_getElem? (i := 472) (by decide +kernel)) rfl
theorem qw_473 : Cond.methodLink RX2 33 yX2_add ∈ lw_tb := lw_up (List.mem_of_getElem? (i := 473) (by decide +kernel)) rfl
theorem qw_476 : Cond.code yX2_add cX2_add 5 none ∈ lw_tb := lw_up (List.mem_of_getElem? (i := 476) (by decide +kernel)) rfl
theorem qw_475 : Cond.instanceMethod yX2_add ∈ lw_tb := lw_up (List.mem_of_getElem? (i := 475) (by decide +kernel)) rfl
theorem qw_9 : Cond.selects RX2 yX2_add yX2_add ∈ lw_tb := lw_up (List.mem_of_getElem? (i := 9) (by decide +kernel)) rfl
theorem qw_471 : Cond.methodLink RX2 25 yX0_isWhole ∈ lw_tb := lw_up (List.mem_of_getElem? (i := 471) (by decide +kernel)) rfl
theorem qw_470 : Cond.methodLink RX2 19 yX0_newestBlock ∈ lw_tb := lw_up (List.mem_of_getElem? (i := 470) (by decide +kernel)) rfl
theorem qw_486 : Cond.methodLink RX2 45 yX2_detail ∈ lw_tb := lw_up (List.mem_of_getElem? (i := 486) (by decide +kernel)) rfl
theorem qw_489 : Cond.code yX2_detail cX2_detail 4 (some .int) ∈ lw_tb := lw_up (List.mem_of_getElem? (i := 489) (by decide +kernel)) rfl
theorem qw_487 : Cond.instanceMethod yX2_detail ∈ lw_tb := lw_up (List.mem_of_getElem? (i := 487) (by decide +kernel)) rfl
theorem qw_488 : Cond.selects RX2 yX2_detail yX2_detail ∈ lw_tb := lw_up (List.mem_of_getElem? (i := 488) (by decide +kernel)) rfl
theorem qw_146 : Cond.fieldLink RX4 11 RX4 "states" "[LTicketJournal$Printer;" ∈ lw_tb := lw_up (List.mem_of_getElem? (i := 146) (by decide +kernel)) rfl
theorem qw_147 : Cond.fieldLink RX4 17 RX4 "oldest" "I" ∈ lw_tb := lw_up (List.mem_of_getElem? (i := 147) (by decide +kernel)) rfl
theorem qw_148 : Cond.fieldLink RX4 21 RX4 "size" "I" ∈ lw_tb := lw_up (List.mem_of_getElem? (i := 148) (by decide +kernel)) rfl
theorem qw_236 : Cond.methodLink RX4 25 yX4_stateAt ∈ lw_tb := lw_up (List.mem_of_getElem? (i := 236) (by decide +kernel)) rfl
theorem qw_18 : Cond.initialized RX4 ∈ lw_tb := lw_up (List.mem_of_getElem? (i := 18) (by decide +kernel)) rfl
theorem qw_239 : Cond.code yX4_stateAt cX4_stateAt 3 (some (.object "TicketJournal$Printer")) ∈ lw_tb := lw_up (List.mem_of_getElem? (i := 239) (by decide +kernel)) rfl
theorem qw_238 : Cond.instanceMethod yX4_stateAt ∈ lw_tb := lw_up (List.mem_of_getElem? (i := 238) (by decide +kernel)) rfl
theorem qw_1 : Cond.selects RX4 yX4_stateAt yX4_stateAt ∈ lw_tb := lw_up (List.mem_of_getElem? (i := 1) (by decide +kernel)) rfl
theorem qw_240 : Cond.methodLink RX4 29 yX5_copyFrom ∈ lw_tb := lw_up (List.mem_of_getElem? (i := 240) (by decide +kernel)) rfl
theorem qw_243 : Cond.code yX5_copyFrom cX5_copyFrom 2 none ∈ lw_tb := lw_up (List.mem_of_getElem? (i := 243) (by decide +kernel)) rfl
theorem qw_241 : Cond.instanceMethod yX5_copyFrom ∈ lw_tb := lw_up (List.mem_of_getElem? (i := 241) (by decide +kernel)) rfl
theorem qw_242 : Cond.selects RX5 yX5_copyFrom yX5_copyFrom ∈ lw_tb := lw_up (List.mem_of_getElem? (i := 242) (by decide +kernel)) rfl
theorem qw_166 : Cond.fieldLink RX1 10 RX1 "state" "LTicketJournal$Printer;" ∈ lw_tb := lw_up (List.mem_of_getElem? (i := 166) (by decide +kernel)) rfl
theorem qw_453 : Cond.methodLink RX1 20 yX5_copyFrom ∈ lw_tb := lw_up (List.mem_of_getElem? (i := 453) (by decide +kernel)) rfl
theorem qw_168 : Cond.fieldLink RX1 16 RX1 "filled" "Z" ∈ lw_tb := lw_up (List.mem_of_getElem? (i := 168) (by decide +kernel)) rfl
theorem qw_179 : Cond.fieldLink RX6 35 RX6 "images" "[LTicketJournal$Image;" ∈ lw_tb := lw_up (List.mem_of_getElem? (i := 179) (by decide +kernel)) rfl
theorem qw_494 : Cond.methodLink RX6 159 yX6_isBlock ∈ lw_tb := lw_up (List.mem_of_getElem? (i := 494) (by decide +kernel)) rfl
theorem qw_496 : Cond.code yX6_isBlock cX6_isBlock 1 (some .boolean) ∈ lw_tb := lw_up (List.mem_of_getElem? (i := 496) (by decide +kernel)) rfl
theorem qw_495 : Cond.static yX6_isBlock ∈ lw_tb := lw_up (List.mem_of_getElem? (i := 495) (by decide +kernel)) rfl
theorem qw_175 : Cond.fieldLink RX6 10 RX6 "present" "LTicketJournal$Printer;" ∈ lw_tb := lw_up (List.mem_of_getElem? (i := 175) (by decide +kernel)) rfl
theorem qw_97 : Cond.fieldLinkNest RX6 99 RX5 "flash" "LTicketJournal$Flash;" "TicketJournal" ∈ lw_ns := lw_un (List.mem_of_getElem? (i := 97) (by decide +kernel)) rfl
theorem qw_498 : Cond.methodLink RX6 162 yX0_read ∈ lw_tb := lw_up (List.mem_of_getElem? (i := 498) (by decide +kernel)) rfl
theorem qw_497 : Cond.methodLink RX6 165 yX0_isWhole ∈ lw_tb := lw_up (List.mem_of_getElem? (i := 497) (by decide +kernel)) rfl
theorem qw_499 : Cond.methodLink RX6 168 yX0_tallyIn ∈ lw_tb := lw_up (List.mem_of_getElem? (i := 499) (by decide +kernel)) rfl
theorem qw_500 : Cond.methodLink RX6 171 yX0_erasuresOf ∈ lw_tb := lw_up (List.mem_of_getElem? (i := 500) (by decide +kernel)) rfl
theorem qw_503 : Cond.code yX0_erasuresOf cX0_erasuresOf 2 (some .int) ∈ lw_tb := lw_up (List.mem_of_getElem? (i := 503) (by decide +kernel)) rfl
theorem qw_501 : Cond.instanceMethod yX0_erasuresOf ∈ lw_tb := lw_up (List.mem_of_getElem? (i := 501) (by decide +kernel)) rfl
theorem qw_502 : Cond.selects RX0 yX0_erasuresOf yX0_erasuresOf ∈ lw_tb := lw_up (List.mem_of_getElem? (i := 502) (by decide +kernel)) rfl
theorem qw_102 : Cond.fieldLinkNest RX6 51 RX5 "on" "Z" "TicketJournal" ∈ lw_ns := lw_un (List.mem_of_getElem? (i := 102) (by decide +kernel)) rfl
theorem qw_99 : Cond.fieldLinkNest RX6 117 RX5 "memory" "LTicketJournal$Memory;" "TicketJournal" ∈ lw_ns := lw_un (List.mem_of_getElem? (i := 99) (by decide +kernel)) rfl
theorem qw_73 : Cond.fieldLinkNest RX6 121 RX3 "number" "I" "TicketJournal" ∈ lw_ns := lw_un (List.mem_of_getElem? (i := 73) (by decide +kernel)) rfl
theorem qw_76 : Cond.fieldLinkNest RX6 144 RX3 "sum" "I" "TicketJournal" ∈ lw_ns := lw_un (List.mem_of_getElem? (i := 76) (by decide +kernel)) rfl
theorem qw_78 : Cond.fieldLinkNest RX6 147 RX3 "tickets" "I" "TicketJournal" ∈ lw_ns := lw_un (List.mem_of_getElem? (i := 78) (by decide +kernel)) rfl
theorem qw_82 : Cond.fieldLinkNest RX6 150 RX3 "paper" "I" "TicketJournal" ∈ lw_ns := lw_un (List.mem_of_getElem? (i := 82) (by decide +kernel)) rfl
theorem qw_67 : Cond.fieldLinkNest RX6 153 RX3 "current" "I" "TicketJournal" ∈ lw_ns := lw_un (List.mem_of_getElem? (i := 67) (by decide +kernel)) rfl
theorem qw_70 : Cond.fieldLinkNest RX6 156 RX3 "next" "I" "TicketJournal" ∈ lw_ns := lw_un (List.mem_of_getElem? (i := 70) (by decide +kernel)) rfl
theorem qw_104 : Cond.fieldLinkNest RX6 79 RX5 "time" "I" "TicketJournal" ∈ lw_ns := lw_un (List.mem_of_getElem? (i := 104) (by decide +kernel)) rfl
theorem qw_106 : Cond.fieldLinkNest RX6 132 RX5 "there" "I" "TicketJournal" ∈ lw_ns := lw_un (List.mem_of_getElem? (i := 106) (by decide +kernel)) rfl
theorem qw_108 : Cond.fieldLinkNest RX6 135 RX5 "printed" "I" "TicketJournal" ∈ lw_ns := lw_un (List.mem_of_getElem? (i := 108) (by decide +kernel)) rfl
theorem qw_46 : Cond.fieldLinkNest RX6 138 RX0 "done" "I" "TicketJournal" ∈ lw_ns := lw_un (List.mem_of_getElem? (i := 46) (by decide +kernel)) rfl
theorem qw_48 : Cond.fieldLinkNest RX6 103 RX0 "left" "I" "TicketJournal" ∈ lw_ns := lw_un (List.mem_of_getElem? (i := 48) (by decide +kernel)) rfl
theorem qw_178 : Cond.fieldLink RX6 29 RX6 "past" "LTicketJournal$Past;" ∈ lw_tb := lw_up (List.mem_of_getElem? (i := 178) (by decide +kernel)) rfl
theorem qw_149 : Cond.fieldLinkNest RX6 126 RX4 "size" "I" "TicketJournal" ∈ lw_ns := lw_un (List.mem_of_getElem? (i := 149) (by decide +kernel)) rfl
theorem qw_198 : Cond.methodLink RX6 141 yX6_knownNumber ∈ lw_tb := lw_up (List.mem_of_getElem? (i := 198) (by decide +kernel)) rfl
theorem qw_201 : Cond.code yX6_knownNumber cX6_knownNumber 2 (some .int) ∈ lw_tb := lw_up (List.mem_of_getElem? (i := 201) (by decide +kernel)) rfl
theorem qw_200 : Cond.instanceMethod yX6_knownNumber ∈ lw_tb := lw_up (List.mem_of_getElem? (i := 200) (by decide +kernel)) rfl
theorem qw_0 : Cond.selects RX6 yX6_knownNumber yX6_knownNumber ∈ lw_tb := lw_up (List.mem_of_getElem? (i := 0) (by decide +kernel)) rfl
theorem qw_176 : Cond.fieldLink RX6 16 RX6 "trial" "LTicketJournal$Printer;" ∈ lw_tb := lw_up (List.mem_of_getElem? (i := 176) (by decide +kernel)) rfl
theorem qw_458 : Cond.methodLink RX6 199 yX5_copyFrom ∈ lw_tb := lw_up (List.mem_of_getElem? (i := 458) (by decide +kernel)) rfl
theorem qw_256 : Cond.methodLink RX6 48 yX5_issueTicket ∈ lw_tb := lw_up (List.mem_of_getElem? (i := 256) (by decide +kernel)) rfl
theorem qw_259 : Cond.code yX5_issueTicket cX5_issueTicket 4 (some .int) ∈ lw_tb := lw_up (List.mem_of_getElem? (i := 259) (by decide +kernel)) rfl
theorem qw_257 : Cond.instanceMethod yX5_issueTicket ∈ lw_tb := lw_up (List.mem_of_getElem? (i := 257) (by decide +kernel)) rfl
theorem qw_258 : Cond.selects RX5 yX5_issueTicket yX5_issueTicket ∈ lw_tb := lw_up (List.mem_of_getElem? (i := 258) (by decide +kernel)) rfl
theorem qw_217 : Cond.methodLink RX6 40 yX5_refusalOf ∈ lw_tb := lw_up (List.mem_of_getElem? (i := 217) (by decide +kernel)) rfl
theorem qw_220 : Cond.code yX5_refusalOf cX5_refusalOf 2 (some .int) ∈ lw_tb := lw_up (List.mem_of_getElem? (i := 220) (by decide +kernel)) rfl
theorem qw_218 : Cond.instanceMethod yX5_refusalOf ∈ lw_tb := lw_up (List.mem_of_getElem? (i := 218) (by decide +kernel)) rfl
theorem qw_219 : Cond.selects RX5 yX5_refusalOf yX5_refusalOf ∈ lw_tb := lw_up (List.mem_of_getElem? (i := 219) (by decide +kernel)) rfl
theorem qw_537 : Cond.methodLink RX6 196 yX6_trySale ∈ lw_tb := lw_up (List.mem_of_getElem? (i := 537) (by decide +kernel)) rfl
theorem qw_540 : Cond.code yX6_trySale cX6_trySale 3 none ∈ lw_tb := lw_up (List.mem_of_getElem? (i := 540) (by decide +kernel)) rfl
theorem qw_539 : Cond.instanceMethod yX6_trySale ∈ lw_tb := lw_up (List.mem_of_getElem? (i := 539) (by decide +kernel)) rfl
theorem qw_11 : Cond.selects RX6 yX6_trySale yX6_trySale ∈ lw_tb := lw_up (List.mem_of_getElem? (i := 11) (by decide +kernel)) rfl
theorem qw_391 : Cond.methodLink RX6 111 yX0_tally ∈ lw_tb := lw_up (List.mem_of_getElem? (i := 391) (by decide +kernel)) rfl
theorem qw_394 : Cond.code yX0_tally cX0_tally 4 (some .int) ∈ lw_tb := lw_up (List.mem_of_getElem? (i := 394) (by decide +kernel)) rfl
theorem qw_392 : Cond.instanceMethod yX0_tally ∈ lw_tb := lw_up (List.mem_of_getElem? (i := 392) (by decide +kernel)) rfl
theorem qw_393 : Cond.selects RX0 yX0_tally yX0_tally ∈ lw_tb := lw_up (List.mem_of_getElem? (i := 393) (by decide +kernel)) rfl
theorem qw_409 : Cond.methodLink RX6 114 yX5_wake ∈ lw_tb := lw_up (List.mem_of_getElem? (i := 409) (by decide +kernel)) rfl
theorem qw_412 : Cond.code yX5_wake cX5_wake 1 none ∈ lw_tb := lw_up (List.mem_of_getElem? (i := 412) (by decide +kernel)) rfl
theorem qw_410 : Cond.instanceMethod yX5_wake ∈ lw_tb := lw_up (List.mem_of_getElem? (i := 410) (by decide +kernel)) rfl
theorem qw_411 : Cond.selects RX5 yX5_wake yX5_wake ∈ lw_tb := lw_up (List.mem_of_getElem? (i := 411) (by decide +kernel)) rfl
theorem qw_177 : Cond.fieldLink RX6 22 RX6 "journal" "LTicketJournal$Journal;" ∈ lw_tb := lw_up (List.mem_of_getElem? (i := 177) (by decide +kernel)) rfl
theorem qw_466 : Cond.methodLink RX6 174 yX2_gather ∈ lw_tb := lw_up (List.mem_of_getElem? (i := 466) (by decide +kernel)) rfl
theorem qw_469 : Cond.code yX2_gather cX2_gather 7 (some (.object "TicketJournal$Journal")) ∈ lw_tb := lw_up (List.mem_of_getElem? (i := 469) (by decide +kernel)) rfl
theorem qw_467 : Cond.instanceMethod yX2_gather ∈ lw_tb := lw_up (List.mem_of_getElem? (i := 467) (by decide +kernel)) rfl
theorem qw_468 : Cond.selects RX2 yX2_gather yX2_gather ∈ lw_tb := lw_up (List.mem_of_getElem? (i := 468) (by decide +kernel)) rfl
theorem qw_482 : Cond.methodLink RX6 178 yX2_countOf ∈ lw_tb := lw_up (List.mem_of_getElem? (i := 482) (by decide +kernel)) rfl
theorem qw_485 : Cond.code yX2_countOf cX2_countOf 4 (some .int) ∈ lw_tb := lw_up (List.mem_of_getElem? (i := 485) (by decide +kernel)) rfl
theorem qw_483 : Cond.instanceMethod yX2_countOf ∈ lw_tb := lw_up (List.mem_of_getElem? (i := 483) (by decide +kernel)) rfl
theorem qw_484 : Cond.selects RX2 yX2_countOf yX2_countOf ∈ lw_tb := lw_up (List.mem_of_getElem? (i := 484) (by decide +kernel)) rfl
theorem qw_522 : Cond.methodLink RX6 181 yX2_detail ∈ lw_tb := lw_up (List.mem_of_getElem? (i := 522) (by decide +kernel)) rfl
theorem qw_514 : Cond.methodLink RX6 184 yX2_pricesOf ∈ lw_tb := lw_up (List.mem_of_getElem? (i := 514) (by decide +kernel)) rfl
theorem qw_517 : Cond.code yX2_pricesOf cX2_pricesOf 7 (some .int) ∈ lw_tb := lw_up (List.mem_of_getElem? (i := 517) (by decide +kernel)) rfl
theorem qw_515 : Cond.instanceMethod yX2_pricesOf ∈ lw_tb := lw_up (List.mem_of_getElem? (i := 515) (by decide +kernel)) rfl
theorem qw_516 : Cond.selects RX2 yX2_pricesOf yX2_pricesOf ∈ lw_tb := lw_up (List.mem_of_getElem? (i := 516) (by decide +kernel)) rfl
theorem qw_376 : Cond.methodLink RX6 88 yX6_isSort ∈ lw_tb := lw_up (List.mem_of_getElem? (i := 376) (by decide +kernel)) rfl
theorem qw_232 : Cond.methodLink RX6 44 yX4_remember ∈ lw_tb := lw_up (List.mem_of_getElem? (i := 232) (by decide +kernel)) rfl
theorem qw_235 : Cond.code yX4_remember cX4_remember 3 none ∈ lw_tb := lw_up (List.mem_of_getElem? (i := 235) (by decide +kernel)) rfl
theorem qw_233 : Cond.instanceMethod yX4_remember ∈ lw_tb := lw_up (List.mem_of_getElem? (i := 233) (by decide +kernel)) rfl
theorem qw_234 : Cond.selects RX4 yX4_remember yX4_remember ∈ lw_tb := lw_up (List.mem_of_getElem? (i := 234) (by decide +kernel)) rfl
theorem qw_312 : Cond.methodLink RX6 55 yX5_endsWithTicket ∈ lw_tb := lw_up (List.mem_of_getElem? (i := 312) (by decide +kernel)) rfl
theorem qw_315 : Cond.code yX5_endsWithTicket cX5_endsWithTicket 2 (some .boolean) ∈ lw_tb := lw_up (List.mem_of_getElem? (i := 315) (by decide +kernel)) rfl
theorem qw_313 : Cond.instanceMethod yX5_endsWithTicket ∈ lw_tb := lw_up (List.mem_of_getElem? (i := 313) (by decide +kernel)) rfl
theorem qw_314 : Cond.selects RX5 yX5_endsWithTicket yX5_endsWithTicket ∈ lw_tb := lw_up (List.mem_of_getElem? (i := 314) (by decide +kernel)) rfl
theorem qw_331 : Cond.methodLink RX6 59 yX5_cancelLatest ∈ lw_tb := lw_up (List.mem_of_getElem? (i := 331) (by decide +kernel)) rfl
theorem qw_334 : Cond.code yX5_cancelLatest cX5_cancelLatest 2 (some .int) ∈ lw_tb := lw_up (List.mem_of_getElem? (i := 334) (by decide +kernel)) rfl
theorem qw_332 : Cond.instanceMethod yX5_cancelLatest ∈ lw_tb := lw_up (List.mem_of_getElem? (i := 332) (by decide +kernel)) rfl
theorem qw_333 : Cond.selects RX5 yX5_cancelLatest yX5_cancelLatest ∈ lw_tb := lw_up (List.mem_of_getElem? (i := 333) (by decide +kernel)) rfl
theorem qw_339 : Cond.methodLink RX6 63 yX5_closeDay ∈ lw_tb := lw_up (List.mem_of_getElem? (i := 339) (by decide +kernel)) rfl
theorem qw_342 : Cond.code yX5_closeDay cX5_closeDay 2 (some .int) ∈ lw_tb := lw_up (List.mem_of_getElem? (i := 342) (by decide +kernel)) rfl
theorem qw_340 : Cond.instanceMethod yX5_closeDay ∈ lw_tb := lw_up (List.mem_of_getElem? (i := 340) (by decide +kernel)) rfl
theorem qw_341 : Cond.selects RX5 yX5_closeDay yX5_closeDay ∈ lw_tb := lw_up (List.mem_of_getElem? (i := 341) (by decide +kernel)) rfl
theorem qw_347 : Cond.constant RX6 66 50000 ∈ lw_tb := lw_up (List.mem_of_getElem? (i := 347) (by decide +kernel)) rfl
theorem qw_348 : Cond.methodLink RX6 71 yX5_putInPaper ∈ lw_tb := lw_up (List.mem_of_getElem? (i := 348) (by decide +kernel)) rfl
theorem qw_351 : Cond.code yX5_putInPaper cX5_putInPaper 4 (some .int) ∈ lw_tb := lw_up (List.mem_of_getElem? (i := 351) (by decide +kernel)) rfl
theorem qw_349 : Cond.instanceMethod yX5_putInPaper ∈ lw_tb := lw_up (List.mem_of_getElem? (i := 349) (by decide +kernel)) rfl
theorem qw_350 : Cond.selects RX5 yX5_putInPaper yX5_putInPaper ∈ lw_tb := lw_up (List.mem_of_getElem? (i := 350) (by decide +kernel)) rfl
theorem qw_357 : Cond.constant RX6 75 60000 ∈ lw_tb := lw_up (List.mem_of_getElem? (i := 357) (by decide +kernel)) rfl
theorem qw_358 : Cond.methodLink RX6 76 yX5_moveClock ∈ lw_tb := lw_up (List.mem_of_getElem? (i := 358) (by decide +kernel)) rfl
theorem qw_361 : Cond.code yX5_moveClock cX5_moveClock 3 (some .int) ∈ lw_tb := lw_up (List.mem_of_getElem? (i := 361) (by decide +kernel)) rfl
theorem qw_359 : Cond.instanceMethod yX5_moveClock ∈ lw_tb := lw_up (List.mem_of_getElem? (i := 359) (by decide +kernel)) rfl
theorem qw_360 : Cond.selects RX5 yX5_moveClock yX5_moveClock ∈ lw_tb := lw_up (List.mem_of_getElem? (i := 360) (by decide +kernel)) rfl
theorem qw_369 : Cond.methodLink RX6 83 Lib.Math.min.name ∈ lw_tb := lw_up (List.mem_of_getElem? (i := 369) (by decide +kernel)) rfl
theorem qw_370 : Cond.static Lib.Math.min.name ∈ lw_tb := lw_up (List.mem_of_getElem? (i := 370) (by decide +kernel)) rfl
theorem qw_371 : Cond.code Lib.Math.min.name Lib.Math.min.code 2 (some .int) ∈ lw_tb := lw_up (List.mem_of_getElem? (i := 371) (by decide +kernel)) rfl
theorem qw_377 : Cond.methodLink RX6 92 yX5_priceOf ∈ lw_tb := lw_up (List.mem_of_getElem? (i := 377) (by decide +kernel)) rfl
theorem qw_378 : Cond.methodLink RX6 95 yX5_changePrice ∈ lw_tb := lw_up (List.mem_of_getElem? (i := 378) (by decide +kernel)) rfl
theorem qw_381 : Cond.code yX5_changePrice cX5_changePrice 3 none ∈ lw_tb := lw_up (List.mem_of_getElem? (i := 381) (by decide +kernel)) rfl
theorem qw_379 : Cond.instanceMethod yX5_changePrice ∈ lw_tb := lw_up (List.mem_of_getElem? (i := 379) (by decide +kernel)) rfl
theorem qw_380 : Cond.selects RX5 yX5_changePrice yX5_changePrice ∈ lw_tb := lw_up (List.mem_of_getElem? (i := 380) (by decide +kernel)) rfl
theorem qw_390 : Cond.methodLink RX6 108 yX5_losePower ∈ lw_tb := lw_up (List.mem_of_getElem? (i := 390) (by decide +kernel)) rfl
theorem qw_437 : Cond.methodLink RX6 129 yX4_restore ∈ lw_tb := lw_up (List.mem_of_getElem? (i := 437) (by decide +kernel)) rfl
theorem qw_440 : Cond.code yX4_restore cX4_restore 3 none ∈ lw_tb := lw_up (List.mem_of_getElem? (i := 440) (by decide +kernel)) rfl
theorem qw_438 : Cond.instanceMethod yX4_restore ∈ lw_tb := lw_up (List.mem_of_getElem? (i := 438) (by decide +kernel)) rfl
theorem qw_439 : Cond.selects RX4 yX4_restore yX4_restore ∈ lw_tb := lw_up (List.mem_of_getElem? (i := 439) (by decide +kernel)) rfl
theorem qw_445 : Cond.methodLink RX6 202 yX6_isImage ∈ lw_tb := lw_up (List.mem_of_getElem? (i := 445) (by decide +kernel)) rfl
theorem qw_448 : Cond.code yX6_isImage cX6_isImage 2 (some .boolean) ∈ lw_tb := lw_up (List.mem_of_getElem? (i := 448) (by decide +kernel)) rfl
theorem qw_447 : Cond.instanceMethod yX6_isImage ∈ lw_tb := lw_up (List.mem_of_getElem? (i := 447) (by decide +kernel)) rfl
theorem qw_8 : Cond.selects RX6 yX6_isImage yX6_isImage ∈ lw_tb := lw_up (List.mem_of_getElem? (i := 8) (by decide +kernel)) rfl
theorem qw_449 : Cond.methodLink RX6 205 yX1_store ∈ lw_tb := lw_up (List.mem_of_getElem? (i := 449) (by decide +kernel)) rfl
theorem qw_19 : Cond.initialized RX1 ∈ lw_tb := lw_up (List.mem_of_getElem? (i := 19) (by decide +kernel)) rfl
theorem qw_452 : Cond.code yX1_store cX1_store 2 none ∈ lw_tb := lw_up (List.mem_of_getElem? (i := 452) (by decide +kernel)) rfl
theorem qw_450 : Cond.instanceMethod yX1_store ∈ lw_tb := lw_up (List.mem_of_getElem? (i := 450) (by decide +kernel)) rfl
theorem qw_451 : Cond.selects RX1 yX1_store yX1_store ∈ lw_tb := lw_up (List.mem_of_getElem? (i := 451) (by decide +kernel)) rfl
theorem qw_169 : Cond.fieldLinkNest RX6 208 RX1 "filled" "Z" "TicketJournal" ∈ lw_ns := lw_un (List.mem_of_getElem? (i := 169) (by decide +kernel)) rfl
theorem qw_167 : Cond.fieldLinkNest RX6 211 RX1 "state" "LTicketJournal$Printer;" "TicketJournal" ∈ lw_ns := lw_un (List.mem_of_getElem? (i := 167) (by decide +kernel)) rfl
theorem kic_0 : Int32.ofInt 0 = 0 := by decide
theorem kic_1 : Int32.ofInt 1 = 1 := by decide
theorem kic_3 : Int32.ofInt 3 = 3 := by decide
theorem kic_4 : Int32.ofInt 4 = 4 := by decide
theorem kbp_40 : (Int8.ofInt 40).toInt32 = 40 := by decide
theorem kbp_20 : (Int8.ofInt 20).toInt32 = 20 := by decide
theorem kic_5 : Int32.ofInt 5 = 5 := by decide
theorem kbp_7 : (Int8.ofInt 7).toInt32 = 7 := by decide
theorem kbp_11 : (Int8.ofInt 11).toInt32 = 11 := by decide
theorem kbp_13 : (Int8.ofInt 13).toInt32 = 13 := by decide
theorem kic_2 : Int32.ofInt 2 = 2 := by decide
theorem kbp_m9 : (Int8.ofInt (-9)).toInt32 = (-9) := by decide
theorem kbp_22 : (Int8.ofInt 22).toInt32 = 22 := by decide
theorem kbp_6 : (Int8.ofInt 6).toInt32 = 6 := by decide
theorem ksp_10000 : (Int16.ofInt 10000).toInt32 = 10000 := by decide
theorem kbp_110 : (Int8.ofInt 110).toInt32 = 110 := by decide
theorem ksp_1000 : (Int16.ofInt 1000).toInt32 = 1000 := by decide
theorem kbp_m2 : (Int8.ofInt (-2)).toInt32 = (-2) := by decide
theorem kbp_m3 : (Int8.ofInt (-3)).toInt32 = (-3) := by decide
theorem kic_m1 : Int32.ofInt (-1) = (-1) := by decide
theorem kbp_m4 : (Int8.ofInt (-4)).toInt32 = (-4) := by decide
theorem kbp_8 : (Int8.ofInt 8).toInt32 = 8 := by decide
theorem kbp_21 : (Int8.ofInt 21).toInt32 = 21 := by decide
theorem kbp_30 : (Int8.ofInt 30).toInt32 = 30 := by decide
theorem ksp_5000 : (Int16.ofInt 5000).toInt32 = 5000 := by decide
theorem ksp_999 : (Int16.ofInt 999).toInt32 = 999 := by decide
theorem kbp_100 : (Int8.ofInt 100).toInt32 = 100 := by decide
theorem ms_X6_isWithin : mSo yX6_isWithin cX6_isWithin 3 3 (some .boolean) := ⟨qw_196, qw_13, qw_197, by decide +kernel⟩
theorem mv_X0_spendOperation : mVo yX0_spendOperation cX0_spendOperation 1 0 (some .boolean) := ⟨qw_282, qw_4, qw_15, qw_283, by decide +kernel⟩
theorem mv_X0_read : mVo yX0_read cX0_read 4 2 (some .int) := ⟨qw_269, qw_270, qw_15, qw_271, by decide +kernel⟩
theorem ms_X6_headerCheck : mSo yX6_headerCheck cX6_headerCheck 5 5 (some .int) := ⟨qw_273, qw_13, qw_274, by decide +kernel⟩
theorem mv_X0_recordWord : mVo yX0_recordWord cX0_recordWord 4 3 (some .int) := ⟨qw_325, qw_326, qw_15, qw_327, by decide +kernel⟩
theorem mv_X0_isEmpty : mVo yX0_isEmpty cX0_isEmpty 4 2 (some .boolean) := ⟨qw_322, qw_6, qw_15, qw_323, by decide +kernel⟩
theorem ms_X6_recordCheck : mSo yX6_recordCheck cX6_recordCheck 4 4 (some .int) := ⟨qw_293, qw_13, qw_294, by decide +kernel⟩
theorem mv_X0_stateOf : mVo yX0_stateOf cX0_stateOf 4 2 (some .int) := ⟨qw_317, qw_318, qw_15, qw_319, by decide +kernel⟩
theorem mv_X0_isWhole : mVo yX0_isWhole cX0_isWhole 3 1 (some .boolean) := ⟨qw_400, qw_401, qw_15, qw_402, by decide +kernel⟩
theorem mv_X0_tallyIn : mVo yX0_tallyIn cX0_tallyIn 5 2 (some .int) := ⟨qw_396, qw_397, qw_15, qw_398, by decide +kernel⟩
theorem mv_X0_isFollowed : mVo yX0_isFollowed cX0_isFollowed 4 1 (some .boolean) := ⟨qw_423, qw_7, qw_15, qw_424, by decide +kernel⟩
theorem ms_X6_lengthOf : mSo yX6_lengthOf cX6_lengthOf 1 1 (some .int) := ⟨qw_230, qw_13, qw_231, by decide +kernel⟩
theorem mv_X3_learn : mVo yX3_learn cX3_learn 4 2 none := ⟨qw_304, qw_305, qw_16, qw_306, by decide +kernel⟩
theorem mv_X0_newestBlock : mVo yX0_newestBlock cX0_newestBlock 2 0 (some .int) := ⟨qw_418, qw_419, qw_15, qw_420, by decide +kernel⟩
theorem mv_X0_nextPlaceIn : mVo yX0_nextPlaceIn cX0_nextPlaceIn 3 1 (some .int) := ⟨qw_426, qw_427, qw_15, qw_428, by decide +kernel⟩
theorem mv_X0_copyFrom : mVo yX0_copyFrom cX0_copyFrom 2 1 none := ⟨qw_245, qw_246, qw_15, qw_247, by decide +kernel⟩
theorem mv_X3_copyFrom : mVo yX3_copyFrom cX3_copyFrom 2 1 none := ⟨qw_252, qw_253, qw_16, qw_254, by decide +kernel⟩
theorem ms_X6_isSort : mSo yX6_isSort cX6_isSort 1 1 (some .boolean) := ⟨qw_222, qw_13, qw_223, by decide +kernel⟩
theorem mv_X5_priceOf : mVo yX5_priceOf cX5_priceOf 2 1 (some .int) := ⟨qw_225, qw_226, qw_14, qw_227, by decide +kernel⟩
theorem mv_X3_forget : mVo yX3_forget cX3_forget 1 0 none := ⟨qw_300, qw_301, qw_16, qw_302, by decide +kernel⟩
theorem mv_X3_recall : mVo yX3_recall cX3_recall 3 1 none := ⟨qw_414, qw_415, qw_16, qw_416, by decide +kernel⟩
theorem mv_X0_erase : mVo yX0_erase cX0_erase 3 1 (some .boolean) := ⟨qw_277, qw_278, qw_15, qw_279, by decide +kernel⟩
theorem mv_X0_write : mVo yX0_write cX0_write 5 3 (some .boolean) := ⟨qw_285, qw_286, qw_15, qw_287, by decide +kernel⟩
theorem mv_X5_losePower : mVo yX5_losePower cX5_losePower 1 0 none := ⟨qw_296, qw_297, qw_14, qw_298, by decide +kernel⟩
theorem mv_X5_fillPlace : mVo yX5_fillPlace cX5_fillPlace 7 3 (some .boolean) := ⟨qw_290, qw_5, qw_14, qw_291, by decide +kernel⟩
theorem mv_X5_beginBlock : mVo yX5_beginBlock cX5_beginBlock 5 0 (some .boolean) := ⟨qw_266, qw_3, qw_14, qw_267, by decide +kernel⟩
theorem mv_X5_writeRecord : mVo yX5_writeRecord cX5_writeRecord 6 3 (some .boolean) := ⟨qw_262, qw_2, qw_14, qw_263, by decide +kernel⟩
theorem mv_X2_setDetail : mVo yX2_setDetail cX2_setDetail 4 2 none := ⟨qw_480, qw_10, qw_17, qw_481, by decide +kernel⟩
theorem mv_X2_add : mVo yX2_add cX2_add 5 3 none := ⟨qw_475, qw_9, qw_17, qw_476, by decide +kernel⟩
theorem mv_X2_detail : mVo yX2_detail cX2_detail 4 2 (some .int) := ⟨qw_487, qw_488, qw_17, qw_489, by decide +kernel⟩
theorem mv_X4_stateAt : mVo yX4_stateAt cX4_stateAt 3 1 (some (.object "TicketJournal$Printer")) := ⟨qw_238, qw_1, qw_18, qw_239, by decide +kernel⟩
theorem mv_X5_copyFrom : mVo yX5_copyFrom cX5_copyFrom 2 1 none := ⟨qw_241, qw_242, qw_14, qw_243, by decide +kernel⟩
theorem ms_X6_isBlock : mSo yX6_isBlock cX6_isBlock 1 1 (some .boolean) := ⟨qw_495, qw_13, qw_496, by decide +kernel⟩
theorem mv_X0_erasuresOf : mVo yX0_erasuresOf cX0_erasuresOf 2 1 (some .int) := ⟨qw_501, qw_502, qw_15, qw_503, by decide +kernel⟩
theorem mv_X6_knownNumber : mVo yX6_knownNumber cX6_knownNumber 2 1 (some .int) := ⟨qw_200, qw_0, qw_13, qw_201, by decide +kernel⟩
theorem mv_X5_issueTicket : mVo yX5_issueTicket cX5_issueTicket 4 1 (some .int) := ⟨qw_257, qw_258, qw_14, qw_259, by decide +kernel⟩
theorem mv_X5_refusalOf : mVo yX5_refusalOf cX5_refusalOf 2 1 (some .int) := ⟨qw_218, qw_219, qw_14, qw_220, by decide +kernel⟩
theorem mv_X6_trySale : mVo yX6_trySale cX6_trySale 3 2 none := ⟨qw_539, qw_11, qw_13, qw_540, by decide +kernel⟩
theorem mv_X0_tally : mVo yX0_tally cX0_tally 4 1 (some .int) := ⟨qw_392, qw_393, qw_15, qw_394, by decide +kernel⟩
theorem mv_X5_wake : mVo yX5_wake cX5_wake 1 0 none := ⟨qw_410, qw_411, qw_14, qw_412, by decide +kernel⟩
theorem mv_X2_gather : mVo yX2_gather cX2_gather 7 1 (some (.object "TicketJournal$Journal")) := ⟨qw_467, qw_468, qw_17, qw_469, by decide +kernel⟩
theorem mv_X2_countOf : mVo yX2_countOf cX2_countOf 4 1 (some .int) := ⟨qw_483, qw_484, qw_17, qw_485, by decide +kernel⟩
theorem mv_X2_pricesOf : mVo yX2_pricesOf cX2_pricesOf 7 2 (some .int) := ⟨qw_515, qw_516, qw_17, qw_517, by decide +kernel⟩
theorem mv_X4_remember : mVo yX4_remember cX4_remember 3 1 none := ⟨qw_233, qw_234, qw_18, qw_235, by decide +kernel⟩
theorem mv_X5_endsWithTicket : mVo yX5_endsWithTicket cX5_endsWithTicket 2 0 (some .boolean) := ⟨qw_313, qw_314, qw_14, qw_315, by decide +kernel⟩
theorem mv_X5_cancelLatest : mVo yX5_cancelLatest cX5_cancelLatest 2 0 (some .int) := ⟨qw_332, qw_333, qw_14, qw_334, by decide +kernel⟩
theorem mv_X5_closeDay : mVo yX5_closeDay cX5_closeDay 2 0 (some .int) := ⟨qw_340, qw_341, qw_14, qw_342, by decide +kernel⟩
theorem mv_X5_putInPaper : mVo yX5_putInPaper cX5_putInPaper 4 2 (some .int) := ⟨qw_349, qw_350, qw_14, qw_351, by decide +kernel⟩
theorem mv_X5_moveClock : mVo yX5_moveClock cX5_moveClock 3 1 (some .int) := ⟨qw_359, qw_360, qw_14, qw_361, by decide +kernel⟩
theorem mv_X5_changePrice : mVo yX5_changePrice cX5_changePrice 3 2 none := ⟨qw_379, qw_380, qw_14, qw_381, by decide +kernel⟩
theorem mv_X4_restore : mVo yX4_restore cX4_restore 3 1 none := ⟨qw_438, qw_439, qw_18, qw_440, by decide +kernel⟩
theorem mv_X6_isImage : mVo yX6_isImage cX6_isImage 2 1 (some .boolean) := ⟨qw_447, qw_8, qw_13, qw_448, by decide +kernel⟩
theorem mv_X1_store : mVo yX1_store cX1_store 2 1 none := ⟨qw_450, qw_451, qw_19, qw_452, by decide +kernel⟩
theorem gf_X0_2 {X : CX} {Z : GZ} {R : Room} {cc : ByteArray} {own : String} {nL kc ks : Nat} {ws : va_W} {pc : Nat} {lv : List (Nat × Value)} {st : List Value} {ix a : Nat} {fs : List Value} {v : Value} (q0 : Nat) (he : ws[q0]? = some (a, .inr (0, fs))) (hv : fs[2]? = some v) (q : Cond.fieldLink own ix RX0 "done" "I" ∈ lw_tb) (d : decode cc pc = .ok (.getfield ix, 3)) (kk : AtK X Z R cc own nL kc ks ws (pc + 3) lv (v :: st)) : AtK X Z R cc own nL kc ks ws pc lv (.ref a :: st) := r_getf (T := TX0) (N := 4) kX0 rfl 2 (by decide) rfl q0 he hv q d kk
theorem pf_X0_2 {X : CX} {Z : GZ} {R : Room} {cc : ByteArray} {own : String} {nL kc ks : Nat} {ws : va_W} {pc : Nat} {lv : List (Nat × Value)} {st : List Value} {ix a : Nat} {fs : List Value} {x : Int32} (q0 : Nat) (he : ws[q0]? = some (a, .inr (0, fs))) (hle : 2 < fs.length) (q : Cond.fieldLink own ix RX0 "done" "I" ∈ lw_tb) (d : decode cc pc = .ok (.putfield ix, 3)) {ws' : va_W} (hw9 : ws.set q0 (a, .inr (0, fs.set 2 (.int x))) = ws') (kk : AtK X Z R cc own nL kc ks ws' (pc + 3) lv st) : AtK X Z R cc own nL kc ks ws pc lv (.int x :: .ref a :: st) := r_putf (T := TX0) (N := 4) (host := "") kX0 rfl 2 (by decide) rfl tyX0 tyX0_ok nmX0 rfl (ty := .int) (by decide +kernel) rfl rfl q0 he hle q d hw9 kk
theorem gf_X0_3 {X : CX} {Z : GZ} {R : Room} {cc : ByteArray} {own : String} {nL kc ks : Nat} {ws : va_W} {pc : Nat} {lv : List (Nat × Value)} {st : List Value} {ix a : Nat} {fs : List Value} {v : Value} (q0 : Nat) (he : ws[q0]? = some (a, .inr (0, fs))) (hv : fs[3]? = some v) (q : Cond.fieldLink own ix RX0 "left" "I" ∈ lw_tb) (d : decode cc pc = .ok (.getfield ix, 3)) (kk : AtK X Z R cc own nL kc ks ws (pc + 3) lv (v :: st)) : AtK X Z R cc own nL kc ks ws pc lv (.ref a :: st) := r_getf (T := TX0) (N := 4) kX0 rfl 3 (by decide) rfl q0 he hv q d kk
theorem pf_X0_3 {X : CX} {Z : GZ} {R : Room} {cc : ByteArray} {own : String} {nL kc ks : Nat} {ws : va_W} {pc : Nat} {lv : List (Nat × Value)} {st : List Value} {ix a : Nat} {fs : List Value} {x : Int32} (q0 : Nat) (he : ws[q0]? = some (a, .inr (0, fs))) (hle : 3 < fs.length) (q : Cond.fieldLink own ix RX0 "left" "I" ∈ lw_tb) (d : decode cc pc = .ok (.putfield ix, 3)) {ws' : va_W} (hw9 : ws.set q0 (a, .inr (0, fs.set 3 (.int x))) = ws') (kk : AtK X Z R cc own nL kc ks ws' (pc + 3) lv st) : AtK X Z R cc own nL kc ks ws pc lv (.int x :: .ref a :: st) := r_putf (T := TX0) (N := 4) (host := "") kX0 rfl 3 (by decide) rfl tyX0 tyX0_ok nmX0 rfl (ty := .int) (by decide +kernel) rfl rfl q0 he hle q d hw9 kk
theorem gf_X0_0 {X : CX} {Z : GZ} {R : Room} {cc : ByteArray} {own : String} {nL kc ks : Nat} {ws : va_W} {pc : Nat} {lv : List (Nat × Value)} {st : List Value} {ix a : Nat} {fs : List Value} {v : Value} (q0 : Nat) (he : ws[q0]? = some (a, .inr (0, fs))) (hv : fs[0]? = some v) (q : Cond.fieldLink own ix RX0 "words" "[I" ∈ lw_tb) (d : decode cc pc = .ok (.getfield ix, 3)) (kk : AtK X Z R cc own nL kc ks ws (pc + 3) lv (v :: st)) : AtK X Z R cc own nL kc ks ws pc lv (.ref a :: st) := r_getf (T := TX0) (N := 4) kX0 rfl 0 (by decide) rfl q0 he hv q d kk
theorem gf_X0_1 {X : CX} {Z : GZ} {R : Room} {cc : ByteArray} {own : String} {nL kc ks : Nat} {ws : va_W} {pc : Nat} {lv : List (Nat × Value)} {st : List Value} {ix a : Nat} {fs : List Value} {v : Value} (q0 : Nat) (he : ws[q0]? = some (a, .inr (0, fs))) (hv : fs[1]? = some v) (q : Cond.fieldLink own ix RX0 "erasures" "[I" ∈ lw_tb) (d : decode cc pc = .ok (.getfield ix, 3)) (kk : AtK X Z R cc own nL kc ks ws (pc + 3) lv (v :: st)) : AtK X Z R cc own nL kc ks ws pc lv (.ref a :: st) := r_getf (T := TX0) (N := 4) kX0 rfl 1 (by decide) rfl q0 he hv q d kk
theorem gf_X3_0 {X : CX} {Z : GZ} {R : Room} {cc : ByteArray} {own : String} {nL kc ks : Nat} {ws : va_W} {pc : Nat} {lv : List (Nat × Value)} {st : List Value} {ix a : Nat} {fs : List Value} {v : Value} (q0 : Nat) (he : ws[q0]? = some (a, .inr (3, fs))) (hv : fs[0]? = some v) (q : Cond.fieldLink own ix RX3 "current" "I" ∈ lw_tb) (d : decode cc pc = .ok (.getfield ix, 3)) (kk : AtK X Z R cc own nL kc ks ws (pc + 3) lv (v :: st)) : AtK X Z R cc own nL kc ks ws pc lv (.ref a :: st) := r_getf (T := TX3) (N := 6) kX3 rfl 0 (by decide) rfl q0 he hv q d kk
theorem pf_X3_0 {X : CX} {Z : GZ} {R : Room} {cc : ByteArray} {own : String} {nL kc ks : Nat} {ws : va_W} {pc : Nat} {lv : List (Nat × Value)} {st : List Value} {ix a : Nat} {fs : List Value} {x : Int32} (q0 : Nat) (he : ws[q0]? = some (a, .inr (3, fs))) (hle : 0 < fs.length) (q : Cond.fieldLink own ix RX3 "current" "I" ∈ lw_tb) (d : decode cc pc = .ok (.putfield ix, 3)) {ws' : va_W} (hw9 : ws.set q0 (a, .inr (3, fs.set 0 (.int x))) = ws') (kk : AtK X Z R cc own nL kc ks ws' (pc + 3) lv st) : AtK X Z R cc own nL kc ks ws pc lv (.int x :: .ref a :: st) := r_putf (T := TX3) (N := 6) (host := "") kX3 rfl 0 (by decide) rfl tyX3 tyX3_ok nmX3 rfl (ty := .int) (by decide +kernel) rfl rfl q0 he hle q d hw9 kk
theorem gf_X3_1 {X : CX} {Z : GZ} {R : Room} {cc : ByteArray} {own : String} {nL kc ks : Nat} {ws : va_W} {pc : Nat} {lv : List (Nat × Value)} {st : List Value} {ix a : Nat} {fs : List Value} {v : Value} (q0 : Nat) (he : ws[q0]? = some (a, .inr (3, fs))) (hv : fs[1]? = some v) (q : Cond.fieldLink own ix RX3 "next" "I" ∈ lw_tb) (d : decode cc pc = .ok (.getfield ix, 3)) (kk : AtK X Z R cc own nL kc ks ws (pc + 3) lv (v :: st)) : AtK X Z R cc own nL kc ks ws pc lv (.ref a :: st) := r_getf (T := TX3) (N := 6) kX3 rfl 1 (by decide) rfl q0 he hv q d kk
theorem pf_X3_1 {X : CX} {Z : GZ} {R : Room} {cc : ByteArray} {own : String} {nL kc ks : Nat} {ws : va_W} {pc : Nat} {lv : List (Nat × Value)} {st : List Value} {ix a : Nat} {fs : List Value} {x : Int32} (q0 : Nat) (he : ws[q0]? = some (a, .inr (3, fs))) (hle : 1 < fs.length) (q : Cond.fieldLink own ix RX3 "next" "I" ∈ lw_tb) (d : decode cc pc = .ok (.putfield ix, 3)) {ws' : va_W} (hw9 : ws.set q0 (a, .inr (3, fs.set 1 (.int x))) = ws') (kk : AtK X Z R cc own nL kc ks ws' (pc + 3) lv st) : AtK X Z R cc own nL kc ks ws pc lv (.int x :: .ref a :: st) := r_putf (T := TX3) (N := 6) (host := "") kX3 rfl 1 (by decide) rfl tyX3 tyX3_ok nmX3 rfl (ty := .int) (by decide +kernel) rfl rfl q0 he hle q d hw9 kk
theorem gf_X3_2 {X : CX} {Z : GZ} {R : Room} {cc : ByteArray} {own : String} {nL kc ks : Nat} {ws : va_W} {pc : Nat} {lv : List (Nat × Value)} {st : List Value} {ix a : Nat} {fs : List Value} {v : Value} (q0 : Nat) (he : ws[q0]? = some (a, .inr (3, fs))) (hv : fs[2]? = some v) (q : Cond.fieldLink own ix RX3 "number" "I" ∈ lw_tb) (d : decode cc pc = .ok (.getfield ix, 3)) (kk : AtK X Z R cc own nL kc ks ws (pc + 3) lv (v :: st)) : AtK X Z R cc own nL kc ks ws pc lv (.ref a :: st) := r_getf (T := TX3) (N := 6) kX3 rfl 2 (by decide) rfl q0 he hv q d kk
theorem pf_X3_2 {X : CX} {Z : GZ} {R : Room} {cc : ByteArray} {own : String} {nL kc ks : Nat} {ws : va_W} {pc : Nat} {lv : List (Nat × Value)} {st : List Value} {ix a : Nat} {fs : List Value} {x : Int32} (q0 : Nat) (he : ws[q0]? = some (a, .inr (3, fs))) (hle : 2 < fs.length) (q : Cond.fieldLink own ix RX3 "number" "I" ∈ lw_tb) (d : decode cc pc = .ok (.putfield ix, 3)) {ws' : va_W} (hw9 : ws.set q0 (a, .inr (3, fs.set 2 (.int x))) = ws') (kk : AtK X Z R cc own nL kc ks ws' (pc + 3) lv st) : AtK X Z R cc own nL kc ks ws pc lv (.int x :: .ref a :: st) := r_putf (T := TX3) (N := 6) (host := "") kX3 rfl 2 (by decide) rfl tyX3 tyX3_ok nmX3 rfl (ty := .int) (by decide +kernel) rfl rfl q0 he hle q d hw9 kk
theorem gf_X3_3 {X : CX} {Z : GZ} {R : Room} {cc : ByteArray} {own : String} {nL kc ks : Nat} {ws : va_W} {pc : Nat} {lv : List (Nat × Value)} {st : List Value} {ix a : Nat} {fs : List Value} {v : Value} (q0 : Nat) (he : ws[q0]? = some (a, .inr (3, fs))) (hv : fs[3]? = some v) (q : Cond.fieldLink own ix RX3 "sum" "I" ∈ lw_tb) (d : decode cc pc = .ok (.getfield ix, 3)) (kk : AtK X Z R cc own nL kc ks ws (pc + 3) lv (v :: st)) : AtK X Z R cc own nL kc ks ws pc lv (.ref a :: st) := r_getf (T := TX3) (N := 6) kX3 rfl 3 (by decide) rfl q0 he hv q d kk
theorem pf_X3_3 {X : CX} {Z : GZ} {R : Room} {cc : ByteArray} {own : String} {nL kc ks : Nat} {ws : va_W} {pc : Nat} {lv : List (Nat × Value)} {st : List Value} {ix a : Nat} {fs : List Value} {x : Int32} (q0 : Nat) (he : ws[q0]? = some (a, .inr (3, fs))) (hle : 3 < fs.length) (q : Cond.fieldLink own ix RX3 "sum" "I" ∈ lw_tb) (d : decode cc pc = .ok (.putfield ix, 3)) {ws' : va_W} (hw9 : ws.set q0 (a, .inr (3, fs.set 3 (.int x))) = ws') (kk : AtK X Z R cc own nL kc ks ws' (pc + 3) lv st) : AtK X Z R cc own nL kc ks ws pc lv (.int x :: .ref a :: st) := r_putf (T := TX3) (N := 6) (host := "") kX3 rfl 3 (by decide) rfl tyX3 tyX3_ok nmX3 rfl (ty := .int) (by decide +kernel) rfl rfl q0 he hle q d hw9 kk
theorem gf_X3_4 {X : CX} {Z : GZ} {R : Room} {cc : ByteArray} {own : String} {nL kc ks : Nat} {ws : va_W} {pc : Nat} {lv : List (Nat × Value)} {st : List Value} {ix a : Nat} {fs : List Value} {v : Value} (q0 : Nat) (he : ws[q0]? = some (a, .inr (3, fs))) (hv : fs[4]? = some v) (q : Cond.fieldLink own ix RX3 "tickets" "I" ∈ lw_tb) (d : decode cc pc = .ok (.getfield ix, 3)) (kk : AtK X Z R cc own nL kc ks ws (pc + 3) lv (v :: st)) : AtK X Z R cc own nL kc ks ws pc lv (.ref a :: st) := r_getf (T := TX3) (N := 6) kX3 rfl 4 (by decide) rfl q0 he hv q d kk
theorem pf_X3_4 {X : CX} {Z : GZ} {R : Room} {cc : ByteArray} {own : String} {nL kc ks : Nat} {ws : va_W} {pc : Nat} {lv : List (Nat × Value)} {st : List Value} {ix a : Nat} {fs : List Value} {x : Int32} (q0 : Nat) (he : ws[q0]? = some (a, .inr (3, fs))) (hle : 4 < fs.length) (q : Cond.fieldLink own ix RX3 "tickets" "I" ∈ lw_tb) (d : decode cc pc = .ok (.putfield ix, 3)) {ws' : va_W} (hw9 : ws.set q0 (a, .inr (3, fs.set 4 (.int x))) = ws') (kk : AtK X Z R cc own nL kc ks ws' (pc + 3) lv st) : AtK X Z R cc own nL kc ks ws pc lv (.int x :: .ref a :: st) := r_putf (T := TX3) (N := 6) (host := "") kX3 rfl 4 (by decide) rfl tyX3 tyX3_ok nmX3 rfl (ty := .int) (by decide +kernel) rfl rfl q0 he hle q d hw9 kk
theorem gf_X3_5 {X : CX} {Z : GZ} {R : Room} {cc : ByteArray} {own : String} {nL kc ks : Nat} {ws : va_W} {pc : Nat} {lv : List (Nat × Value)} {st : List Value} {ix a : Nat} {fs : List Value} {v : Value} (q0 : Nat) (he : ws[q0]? = some (a, .inr (3, fs))) (hv : fs[5]? = some v) (q : Cond.fieldLink own ix RX3 "paper" "I" ∈ lw_tb) (d : decode cc pc = .ok (.getfield ix, 3)) (kk : AtK X Z R cc own nL kc ks ws (pc + 3) lv (v :: st)) : AtK X Z R cc own nL kc ks ws pc lv (.ref a :: st) := r_getf (T := TX3) (N := 6) kX3 rfl 5 (by decide) rfl q0 he hv q d kk
theorem pf_X3_5 {X : CX} {Z : GZ} {R : Room} {cc : ByteArray} {own : String} {nL kc ks : Nat} {ws : va_W} {pc : Nat} {lv : List (Nat × Value)} {st : List Value} {ix a : Nat} {fs : List Value} {x : Int32} (q0 : Nat) (he : ws[q0]? = some (a, .inr (3, fs))) (hle : 5 < fs.length) (q : Cond.fieldLink own ix RX3 "paper" "I" ∈ lw_tb) (d : decode cc pc = .ok (.putfield ix, 3)) {ws' : va_W} (hw9 : ws.set q0 (a, .inr (3, fs.set 5 (.int x))) = ws') (kk : AtK X Z R cc own nL kc ks ws' (pc + 3) lv st) : AtK X Z R cc own nL kc ks ws pc lv (.int x :: .ref a :: st) := r_putf (T := TX3) (N := 6) (host := "") kX3 rfl 5 (by decide) rfl tyX3 tyX3_ok nmX3 rfl (ty := .int) (by decide +kernel) rfl rfl q0 he hle q d hw9 kk
theorem gf_X5_0 {X : CX} {Z : GZ} {R : Room} {cc : ByteArray} {own : String} {nL kc ks : Nat} {ws : va_W} {pc : Nat} {lv : List (Nat × Value)} {st : List Value} {ix a : Nat} {fs : List Value} {v : Value} (q0 : Nat) (he : ws[q0]? = some (a, .inr (5, fs))) (hv : fs[0]? = some v) (q : Cond.fieldLink own ix RX5 "flash" "LTicketJournal$Flash;" ∈ lw_tb) (d : decode cc pc = .ok (.getfield ix, 3)) (kk : AtK X Z R cc own nL kc ks ws (pc + 3) lv (v :: st)) : AtK X Z R cc own nL kc ks ws pc lv (.ref a :: st) := r_getf (T := TX5) (N := 7) kX5 rfl 0 (by decide) rfl q0 he hv q d kk
theorem gf_X5_1 {X : CX} {Z : GZ} {R : Room} {cc : ByteArray} {own : String} {nL kc ks : Nat} {ws : va_W} {pc : Nat} {lv : List (Nat × Value)} {st : List Value} {ix a : Nat} {fs : List Value} {v : Value} (q0 : Nat) (he : ws[q0]? = some (a, .inr (5, fs))) (hv : fs[1]? = some v) (q : Cond.fieldLink own ix RX5 "memory" "LTicketJournal$Memory;" ∈ lw_tb) (d : decode cc pc = .ok (.getfield ix, 3)) (kk : AtK X Z R cc own nL kc ks ws (pc + 3) lv (v :: st)) : AtK X Z R cc own nL kc ks ws pc lv (.ref a :: st) := r_getf (T := TX5) (N := 7) kX5 rfl 1 (by decide) rfl q0 he hv q d kk
theorem gf_X5_2 {X : CX} {Z : GZ} {R : Room} {cc : ByteArray} {own : String} {nL kc ks : Nat} {ws : va_W} {pc : Nat} {lv : List (Nat × Value)} {st : List Value} {ix a : Nat} {fs : List Value} {v : Value} (q0 : Nat) (he : ws[q0]? = some (a, .inr (5, fs))) (hv : fs[2]? = some v) (q : Cond.fieldLink own ix RX5 "prices" "[I" ∈ lw_tb) (d : decode cc pc = .ok (.getfield ix, 3)) (kk : AtK X Z R cc own nL kc ks ws (pc + 3) lv (v :: st)) : AtK X Z R cc own nL kc ks ws pc lv (.ref a :: st) := r_getf (T := TX5) (N := 7) kX5 rfl 2 (by decide) rfl q0 he hv q d kk
theorem gf_X5_3 {X : CX} {Z : GZ} {R : Room} {cc : ByteArray} {own : String} {nL kc ks : Nat} {ws : va_W} {pc : Nat} {lv : List (Nat × Value)} {st : List Value} {ix a : Nat} {fs : List Value} {v : Value} (q0 : Nat) (he : ws[q0]? = some (a, .inr (5, fs))) (hv : fs[3]? = some v) (q : Cond.fieldLink own ix RX5 "on" "Z" ∈ lw_tb) (d : decode cc pc = .ok (.getfield ix, 3)) (kk : AtK X Z R cc own nL kc ks ws (pc + 3) lv (v :: st)) : AtK X Z R cc own nL kc ks ws pc lv (.ref a :: st) := r_getf (T := TX5) (N := 7) kX5 rfl 3 (by decide) rfl q0 he hv q d kk
theorem pf_X5_3 {X : CX} {Z : GZ} {R : Room} {cc : ByteArray} {own : String} {nL kc ks : Nat} {ws : va_W} {pc : Nat} {lv : List (Nat × Value)} {st : List Value} {ix a : Nat} {fs : List Value} {x : Int32} (hz : x = 0 ∨ x = 1) (q0 : Nat) (he : ws[q0]? = some (a, .inr (5, fs))) (hle : 3 < fs.length) (q : Cond.fieldLink own ix RX5 "on" "Z" ∈ lw_tb) (d : decode cc pc = .ok (.putfield ix, 3)) {ws' : va_W} (hw9 : ws.set q0 (a, .inr (5, fs.set 3 (.int x))) = ws') (kk : AtK X Z R cc own nL kc ks ws' (pc + 3) lv st) : AtK X Z R cc own nL kc ks ws pc lv (.int x :: .ref a :: st) := r_putf (T := TX5) (N := 7) (host := "") kX5 rfl 3 (by decide) rfl tyX5 tyX5_ok nmX5 rfl (ty := .boolean) (by decide +kernel) (bzn hz).1 (bzn hz).2 q0 he hle q d hw9 kk
theorem gf_X5_4 {X : CX} {Z : GZ} {R : Room} {cc : ByteArray} {own : String} {nL kc ks : Nat} {ws : va_W} {pc : Nat} {lv : List (Nat × Value)} {st : List Value} {ix a : Nat} {fs : List Value} {v : Value} (q0 : Nat) (he : ws[q0]? = some (a, .inr (5, fs))) (hv : fs[4]? = some v) (q : Cond.fieldLink own ix RX5 "time" "I" ∈ lw_tb) (d : decode cc pc = .ok (.getfield ix, 3)) (kk : AtK X Z R cc own nL kc ks ws (pc + 3) lv (v :: st)) : AtK X Z R cc own nL kc ks ws pc lv (.ref a :: st) := r_getf (T := TX5) (N := 7) kX5 rfl 4 (by decide) rfl q0 he hv q d kk
theorem pf_X5_4 {X : CX} {Z : GZ} {R : Room} {cc : ByteArray} {own : String} {nL kc ks : Nat} {ws : va_W} {pc : Nat} {lv : List (Nat × Value)} {st : List Value} {ix a : Nat} {fs : List Value} {x : Int32} (q0 : Nat) (he : ws[q0]? = some (a, .inr (5, fs))) (hle : 4 < fs.length) (q : Cond.fieldLink own ix RX5 "time" "I" ∈ lw_tb) (d : decode cc pc = .ok (.putfield ix, 3)) {ws' : va_W} (hw9 : ws.set q0 (a, .inr (5, fs.set 4 (.int x))) = ws') (kk : AtK X Z R cc own nL kc ks ws' (pc + 3) lv st) : AtK X Z R cc own nL kc ks ws pc lv (.int x :: .ref a :: st) := r_putf (T := TX5) (N := 7) (host := "") kX5 rfl 4 (by decide) rfl tyX5 tyX5_ok nmX5 rfl (ty := .int) (by decide +kernel) rfl rfl q0 he hle q d hw9 kk
theorem gf_X5_5 {X : CX} {Z : GZ} {R : Room} {cc : ByteArray} {own : String} {nL kc ks : Nat} {ws : va_W} {pc : Nat} {lv : List (Nat × Value)} {st : List Value} {ix a : Nat} {fs : List Value} {v : Value} (q0 : Nat) (he : ws[q0]? = some (a, .inr (5, fs))) (hv : fs[5]? = some v) (q : Cond.fieldLink own ix RX5 "there" "I" ∈ lw_tb) (d : decode cc pc = .ok (.getfield ix, 3)) (kk : AtK X Z R cc own nL kc ks ws (pc + 3) lv (v :: st)) : AtK X Z R cc own nL kc ks ws pc lv (.ref a :: st) := r_getf (T := TX5) (N := 7) kX5 rfl 5 (by decide) rfl q0 he hv q d kk
theorem pf_X5_5 {X : CX} {Z : GZ} {R : Room} {cc : ByteArray} {own : String} {nL kc ks : Nat} {ws : va_W} {pc : Nat} {lv : List (Nat × Value)} {st : List Value} {ix a : Nat} {fs : List Value} {x : Int32} (q0 : Nat) (he : ws[q0]? = some (a, .inr (5, fs))) (hle : 5 < fs.length) (q : Cond.fieldLink own ix RX5 "there" "I" ∈ lw_tb) (d : decode cc pc = .ok (.putfield ix, 3)) {ws' : va_W} (hw9 : ws.set q0 (a, .inr (5, fs.set 5 (.int x))) = ws') (kk : AtK X Z R cc own nL kc ks ws' (pc + 3) lv st) : AtK X Z R cc own nL kc ks ws pc lv (.int x :: .ref a :: st) := r_putf (T := TX5) (N := 7) (host := "") kX5 rfl 5 (by decide) rfl tyX5 tyX5_ok nmX5 rfl (ty := .int) (by decide +kernel) rfl rfl q0 he hle q d hw9 kk
theorem gf_X5_6 {X : CX} {Z : GZ} {R : Room} {cc : ByteArray} {own : String} {nL kc ks : Nat} {ws : va_W} {pc : Nat} {lv : List (Nat × Value)} {st : List Value} {ix a : Nat} {fs : List Value} {v : Value} (q0 : Nat) (he : ws[q0]? = some (a, .inr (5, fs))) (hv : fs[6]? = some v) (q : Cond.fieldLink own ix RX5 "printed" "I" ∈ lw_tb) (d : decode cc pc = .ok (.getfield ix, 3)) (kk : AtK X Z R cc own nL kc ks ws (pc + 3) lv (v :: st)) : AtK X Z R cc own nL kc ks ws pc lv (.ref a :: st) := r_getf (T := TX5) (N := 7) kX5 rfl 6 (by decide) rfl q0 he hv q d kk
theorem pf_X5_6 {X : CX} {Z : GZ} {R : Room} {cc : ByteArray} {own : String} {nL kc ks : Nat} {ws : va_W} {pc : Nat} {lv : List (Nat × Value)} {st : List Value} {ix a : Nat} {fs : List Value} {x : Int32} (q0 : Nat) (he : ws[q0]? = some (a, .inr (5, fs))) (hle : 6 < fs.length) (q : Cond.fieldLink own ix RX5 "printed" "I" ∈ lw_tb) (d : decode cc pc = .ok (.putfield ix, 3)) {ws' : va_W} (hw9 : ws.set q0 (a, .inr (5, fs.set 6 (.int x))) = ws') (kk : AtK X Z R cc own nL kc ks ws' (pc + 3) lv st) : AtK X Z R cc own nL kc ks ws pc lv (.int x :: .ref a :: st) := r_putf (T := TX5) (N := 7) (host := "") kX5 rfl 6 (by decide) rfl tyX5 tyX5_ok nmX5 rfl (ty := .int) (by decide +kernel) rfl rfl q0 he hle q d hw9 kk
theorem gfN_X3_3 {X : CX} {Z : GZ} {R : Room} {cc : ByteArray} {own : String} {nL kc ks : Nat} {ws : va_W} {pc : Nat} {lv : List (Nat × Value)} {st : List Value} {ix a : Nat} {fs : List Value} {host : String} {v : Value} (q0 : Nat) (he : ws[q0]? = some (a, .inr (3, fs))) (hv : fs[3]? = some v) (q : Cond.fieldLinkNest own ix RX3 "sum" "I" host ∈ lw_ns) (d : decode cc pc = .ok (.getfield ix, 3)) (kk : AtK X Z R cc own nL kc ks ws (pc + 3) lv (v :: st)) : AtK X Z R cc own nL kc ks ws pc lv (.ref a :: st) := r_getfN (T := TX3) (N := 6) kX3 rfl 3 (by decide) rfl q0 he hv q d kk
theorem gfN_X3_5 {X : CX} {Z : GZ} {R : Room} {cc : ByteArray} {own : String} {nL kc ks : Nat} {ws : va_W} {pc : Nat} {lv : List (Nat × Value)} {st : List Value} {ix a : Nat} {fs : List Value} {host : String} {v : Value} (q0 : Nat) (he : ws[q0]? = some (a, .inr (3, fs))) (hv : fs[5]? = some v) (q : Cond.fieldLinkNest own ix RX3 "paper" "I" host ∈ lw_ns) (d : decode cc pc = .ok (.getfield ix, 3)) (kk : AtK X Z R cc own nL kc ks ws (pc + 3) lv (v :: st)) : AtK X Z R cc own nL kc ks ws pc lv (.ref a :: st) := r_getfN (T := TX3) (N := 6) kX3 rfl 5 (by decide) rfl q0 he hv q d kk
theorem pfN_X3_0 {X : CX} {Z : GZ} {R : Room} {cc : ByteArray} {own : String} {nL kc ks : Nat} {ws : va_W} {pc : Nat} {lv : List (Nat × Value)} {st : List Value} {ix a : Nat} {fs : List Value} {host : String} {x : Int32} (q0 : Nat) (he : ws[q0]? = some (a, .inr (3, fs))) (hle : 0 < fs.length) (q : Cond.fieldLinkNest own ix RX3 "current" "I" host ∈ lw_ns) (d : decode cc pc = .ok (.putfield ix, 3)) {ws' : va_W} (hw9 : ws.set q0 (a, .inr (3, fs.set 0 (.int x))) = ws') (kk : AtK X Z R cc own nL kc ks ws' (pc + 3) lv st) : AtK X Z R cc own nL kc ks ws pc lv (.int x :: .ref a :: st) := r_putfN (T := TX3) (N := 6) (host := host) kX3 rfl 0 (by decide) rfl tyX3 tyX3_ok nmX3 rfl (ty := .int) (by decide +kernel) rfl rfl q0 he hle q d hw9 kk
theorem pfN_X3_1 {X : CX} {Z : GZ} {R : Room} {cc : ByteArray} {own : String} {nL kc ks : Nat} {ws : va_W} {pc : Nat} {lv : List (Nat × Value)} {st : List Value} {ix a : Nat} {fs : List Value} {host : String} {x : Int32} (q0 : Nat) (he : ws[q0]? = some (a, .inr (3, fs))) (hle : 1 < fs.length) (q : Cond.fieldLinkNest own ix RX3 "next" "I" host ∈ lw_ns) (d : decode cc pc = .ok (.putfield ix, 3)) {ws' : va_W} (hw9 : ws.set q0 (a, .inr (3, fs.set 1 (.int x))) = ws') (kk : AtK X Z R cc own nL kc ks ws' (pc + 3) lv st) : AtK X Z R cc own nL kc ks ws pc lv (.int x :: .ref a :: st) := r_putfN (T := TX3) (N := 6) (host := host) kX3 rfl 1 (by decide) rfl tyX3 tyX3_ok nmX3 rfl (ty := .int) (by decide +kernel) rfl rfl q0 he hle q d hw9 kk
theorem gfN_X3_0 {X : CX} {Z : GZ} {R : Room} {cc : ByteArray} {own : String} {nL kc ks : Nat} {ws : va_W} {pc : Nat} {lv : List (Nat × Value)} {st : List Value} {ix a : Nat} {fs : List Value} {host : String} {v : Value} (q0 : Nat) (he : ws[q0]? = some (a, .inr (3, fs))) (hv : fs[0]? = some v) (q : Cond.fieldLinkNest own ix RX3 "current" "I" host ∈ lw_ns) (d : decode cc pc = .ok (.getfield ix, 3)) (kk : AtK X Z R cc own nL kc ks ws (pc + 3) lv (v :: st)) : AtK X Z R cc own nL kc ks ws pc lv (.ref a :: st) := r_getfN (T := TX3) (N := 6) kX3 rfl 0 (by decide) rfl q0 he hv q d kk
theorem gfN_X3_4 {X : CX} {Z : GZ} {R : Room} {cc : ByteArray} {own : String} {nL kc ks : Nat} {ws : va_W} {pc : Nat} {lv : List (Nat × Value)} {st : List Value} {ix a : Nat} {fs : List Value} {host : String} {v : Value} (q0 : Nat) (he : ws[q0]? = some (a, .inr (3, fs))) (hv : fs[4]? = some v) (q : Cond.fieldLinkNest own ix RX3 "tickets" "I" host ∈ lw_ns) (d : decode cc pc = .ok (.getfield ix, 3)) (kk : AtK X Z R cc own nL kc ks ws (pc + 3) lv (v :: st)) : AtK X Z R cc own nL kc ks ws pc lv (.ref a :: st) := r_getfN (T := TX3) (N := 6) kX3 rfl 4 (by decide) rfl q0 he hv q d kk
theorem gfN_X3_2 {X : CX} {Z : GZ} {R : Room} {cc : ByteArray} {own : String} {nL kc ks : Nat} {ws : va_W} {pc : Nat} {lv : List (Nat × Value)} {st : List Value} {ix a : Nat} {fs : List Value} {host : String} {v : Value} (q0 : Nat) (he : ws[q0]? = some (a, .inr (3, fs))) (hv : fs[2]? = some v) (q : Cond.fieldLinkNest own ix RX3 "number" "I" host ∈ lw_ns) (d : decode cc pc = .ok (.getfield ix, 3)) (kk : AtK X Z R cc own nL kc ks ws (pc + 3) lv (v :: st)) : AtK X Z R cc own nL kc ks ws pc lv (.ref a :: st) := r_getfN (T := TX3) (N := 6) kX3 rfl 2 (by decide) rfl q0 he hv q d kk
theorem gfN_X3_1 {X : CX} {Z : GZ} {R : Room} {cc : ByteArray} {own : String} {nL kc ks : Nat} {ws : va_W} {pc : Nat} {lv : List (Nat × Value)} {st : List Value} {ix a : Nat} {fs : List Value} {host : String} {v : Value} (q0 : Nat) (he : ws[q0]? = some (a, .inr (3, fs))) (hv : fs[1]? = some v) (q : Cond.fieldLinkNest own ix RX3 "next" "I" host ∈ lw_ns) (d : decode cc pc = .ok (.getfield ix, 3)) (kk : AtK X Z R cc own nL kc ks ws (pc + 3) lv (v :: st)) : AtK X Z R cc own nL kc ks ws pc lv (.ref a :: st) := r_getfN (T := TX3) (N := 6) kX3 rfl 1 (by decide) rfl q0 he hv q d kk
theorem gf_X2_1 {X : CX} {Z : GZ} {R : Room} {cc : ByteArray} {own : String} {nL kc ks : Nat} {ws : va_W} {pc : Nat} {lv : List (Nat × Value)} {st : List Value} {ix a : Nat} {fs : List Value} {v : Value} (q0 : Nat) (he : ws[q0]? = some (a, .inr (2, fs))) (hv : fs[1]? = some v) (q : Cond.fieldLink own ix RX2 "count" "I" ∈ lw_tb) (d : decode cc pc = .ok (.getfield ix, 3)) (kk : AtK X Z R cc own nL kc ks ws (pc + 3) lv (v :: st)) : AtK X Z R cc own nL kc ks ws pc lv (.ref a :: st) := r_getf (T := TX2) (N := 2) kX2 rfl 1 (by decide) rfl q0 he hv q d kk
theorem gf_X2_0 {X : CX} {Z : GZ} {R : Room} {cc : ByteArray} {own : String} {nL kc ks : Nat} {ws : va_W} {pc : Nat} {lv : List (Nat × Value)} {st : List Value} {ix a : Nat} {fs : List Value} {v : Value} (q0 : Nat) (he : ws[q0]? = some (a, .inr (2, fs))) (hv : fs[0]? = some v) (q : Cond.fieldLink own ix RX2 "details" "[I" ∈ lw_tb) (d : decode cc pc = .ok (.getfield ix, 3)) (kk : AtK X Z R cc own nL kc ks ws (pc + 3) lv (v :: st)) : AtK X Z R cc own nL kc ks ws pc lv (.ref a :: st) := r_getf (T := TX2) (N := 2) kX2 rfl 0 (by decide) rfl q0 he hv q d kk
theorem pf_X2_1 {X : CX} {Z : GZ} {R : Room} {cc : ByteArray} {own : String} {nL kc ks : Nat} {ws : va_W} {pc : Nat} {lv : List (Nat × Value)} {st : List Value} {ix a : Nat} {fs : List Value} {x : Int32} (q0 : Nat) (he : ws[q0]? = some (a, .inr (2, fs))) (hle : 1 < fs.length) (q : Cond.fieldLink own ix RX2 "count" "I" ∈ lw_tb) (d : decode cc pc = .ok (.putfield ix, 3)) {ws' : va_W} (hw9 : ws.set q0 (a, .inr (2, fs.set 1 (.int x))) = ws') (kk : AtK X Z R cc own nL kc ks ws' (pc + 3) lv st) : AtK X Z R cc own nL kc ks ws pc lv (.int x :: .ref a :: st) := r_putf (T := TX2) (N := 2) (host := "") kX2 rfl 1 (by decide) rfl tyX2 tyX2_ok nmX2 rfl (ty := .int) (by decide +kernel) rfl rfl q0 he hle q d hw9 kk
theorem gf_X4_0 {X : CX} {Z : GZ} {R : Room} {cc : ByteArray} {own : String} {nL kc ks : Nat} {ws : va_W} {pc : Nat} {lv : List (Nat × Value)} {st : List Value} {ix a : Nat} {fs : List Value} {v : Value} (q0 : Nat) (he : ws[q0]? = some (a, .inr (4, fs))) (hv : fs[0]? = some v) (q : Cond.fieldLink own ix RX4 "states" "[LTicketJournal$Printer;" ∈ lw_tb) (d : decode cc pc = .ok (.getfield ix, 3)) (kk : AtK X Z R cc own nL kc ks ws (pc + 3) lv (v :: st)) : AtK X Z R cc own nL kc ks ws pc lv (.ref a :: st) := r_getf (T := TX4) (N := 3) kX4 rfl 0 (by decide) rfl q0 he hv q d kk
theorem gf_X4_1 {X : CX} {Z : GZ} {R : Room} {cc : ByteArray} {own : String} {nL kc ks : Nat} {ws : va_W} {pc : Nat} {lv : List (Nat × Value)} {st : List Value} {ix a : Nat} {fs : List Value} {v : Value} (q0 : Nat) (he : ws[q0]? = some (a, .inr (4, fs))) (hv : fs[1]? = some v) (q : Cond.fieldLink own ix RX4 "oldest" "I" ∈ lw_tb) (d : decode cc pc = .ok (.getfield ix, 3)) (kk : AtK X Z R cc own nL kc ks ws (pc + 3) lv (v :: st)) : AtK X Z R cc own nL kc ks ws pc lv (.ref a :: st) := r_getf (T := TX4) (N := 3) kX4 rfl 1 (by decide) rfl q0 he hv q d kk
theorem gf_X4_2 {X : CX} {Z : GZ} {R : Room} {cc : ByteArray} {own : String} {nL kc ks : Nat} {ws : va_W} {pc : Nat} {lv : List (Nat × Value)} {st : List Value} {ix a : Nat} {fs : List Value} {v : Value} (q0 : Nat) (he : ws[q0]? = some (a, .inr (4, fs))) (hv : fs[2]? = some v) (q : Cond.fieldLink own ix RX4 "size" "I" ∈ lw_tb) (d : decode cc pc = .ok (.getfield ix, 3)) (kk : AtK X Z R cc own nL kc ks ws (pc + 3) lv (v :: st)) : AtK X Z R cc own nL kc ks ws pc lv (.ref a :: st) := r_getf (T := TX4) (N := 3) kX4 rfl 2 (by decide) rfl q0 he hv q d kk
theorem pf_X4_2 {X : CX} {Z : GZ} {R : Room} {cc : ByteArray} {own : String} {nL kc ks : Nat} {ws : va_W} {pc : Nat} {lv : List (Nat × Value)} {st : List Value} {ix a : Nat} {fs : List Value} {x : Int32} (q0 : Nat) (he : ws[q0]? = some (a, .inr (4, fs))) (hle : 2 < fs.length) (q : Cond.fieldLink own ix RX4 "size" "I" ∈ lw_tb) (d : decode cc pc = .ok (.putfield ix, 3)) {ws' : va_W} (hw9 : ws.set q0 (a, .inr (4, fs.set 2 (.int x))) = ws') (kk : AtK X Z R cc own nL kc ks ws' (pc + 3) lv st) : AtK X Z R cc own nL kc ks ws pc lv (.int x :: .ref a :: st) := r_putf (T := TX4) (N := 3) (host := "") kX4 rfl 2 (by decide) rfl tyX4 tyX4_ok nmX4 rfl (ty := .int) (by decide +kernel) rfl rfl q0 he hle q d hw9 kk
theorem pf_X4_1 {X : CX} {Z : GZ} {R : Room} {cc : ByteArray} {own : String} {nL kc ks : Nat} {ws : va_W} {pc : Nat} {lv : List (Nat × Value)} {st : List Value} {ix a : Nat} {fs : List Value} {x : Int32} (q0 : Nat) (he : ws[q0]? = some (a, .inr (4, fs))) (hle : 1 < fs.length) (q : Cond.fieldLink own ix RX4 "oldest" "I" ∈ lw_tb) (d : decode cc pc = .ok (.putfield ix, 3)) {ws' : va_W} (hw9 : ws.set q0 (a, .inr (4, fs.set 1 (.int x))) = ws') (kk : AtK X Z R cc own nL kc ks ws' (pc + 3) lv st) : AtK X Z R cc own nL kc ks ws pc lv (.int x :: .ref a :: st) := r_putf (T := TX4) (N := 3) (host := "") kX4 rfl 1 (by decide) rfl tyX4 tyX4_ok nmX4 rfl (ty := .int) (by decide +kernel) rfl rfl q0 he hle q d hw9 kk
theorem gf_X1_0 {X : CX} {Z : GZ} {R : Room} {cc : ByteArray} {own : String} {nL kc ks : Nat} {ws : va_W} {pc : Nat} {lv : List (Nat × Value)} {st : List Value} {ix a : Nat} {fs : List Value} {v : Value} (q0 : Nat) (he : ws[q0]? = some (a, .inr (1, fs))) (hv : fs[0]? = some v) (q : Cond.fieldLink own ix RX1 "state" "LTicketJournal$Printer;" ∈ lw_tb) (d : decode cc pc = .ok (.getfield ix, 3)) (kk : AtK X Z R cc own nL kc ks ws (pc + 3) lv (v :: st)) : AtK X Z R cc own nL kc ks ws pc lv (.ref a :: st) := r_getf (T := TX1) (N := 2) kX1 rfl 0 (by decide) rfl q0 he hv q d kk
theorem pf_X1_1 {X : CX} {Z : GZ} {R : Room} {cc : ByteArray} {own : String} {nL kc ks : Nat} {ws : va_W} {pc : Nat} {lv : List (Nat × Value)} {st : List Value} {ix a : Nat} {fs : List Value} {x : Int32} (hz : x = 0 ∨ x = 1) (q0 : Nat) (he : ws[q0]? = some (a, .inr (1, fs))) (hle : 1 < fs.length) (q : Cond.fieldLink own ix RX1 "filled" "Z" ∈ lw_tb) (d : decode cc pc = .ok (.putfield ix, 3)) {ws' : va_W} (hw9 : ws.set q0 (a, .inr (1, fs.set 1 (.int x))) = ws') (kk : AtK X Z R cc own nL kc ks ws' (pc + 3) lv st) : AtK X Z R cc own nL kc ks ws pc lv (.int x :: .ref a :: st) := r_putf (T := TX1) (N := 2) (host := "") kX1 rfl 1 (by decide) rfl tyX1 tyX1_ok nmX1 rfl (ty := .boolean) (by decide +kernel) (bzn hz).1 (bzn hz).2 q0 he hle q d hw9 kk
theorem gf_X6_4 {X : CX} {Z : GZ} {R : Room} {cc : ByteArray} {own : String} {nL kc ks : Nat} {ws : va_W} {pc : Nat} {lv : List (Nat × Value)} {st : List Value} {ix a : Nat} {fs : List Value} {v : Value} (q0 : Nat) (he : ws[q0]? = some (a, .inr (6, fs))) (hv : fs[4]? = some v) (q : Cond.fieldLink own ix RX6 "images" "[LTicketJournal$Image;" ∈ lw_tb) (d : decode cc pc = .ok (.getfield ix, 3)) (kk : AtK X Z R cc own nL kc ks ws (pc + 3) lv (v :: st)) : AtK X Z R cc own nL kc ks ws pc lv (.ref a :: st) := r_getf (T := TX6) (N := 5) kX6 rfl 4 (by decide) rfl q0 he hv q d kk
theorem gf_X6_0 {X : CX} {Z : GZ} {R : Room} {cc : ByteArray} {own : String} {nL kc ks : Nat} {ws : va_W} {pc : Nat} {lv : List (Nat × Value)} {st : List Value} {ix a : Nat} {fs : List Value} {v : Value} (q0 : Nat) (he : ws[q0]? = some (a, .inr (6, fs))) (hv : fs[0]? = some v) (q : Cond.fieldLink own ix RX6 "present" "LTicketJournal$Printer;" ∈ lw_tb) (d : decode cc pc = .ok (.getfield ix, 3)) (kk : AtK X Z R cc own nL kc ks ws (pc + 3) lv (v :: st)) : AtK X Z R cc own nL kc ks ws pc lv (.ref a :: st) := r_getf (T := TX6) (N := 5) kX6 rfl 0 (by decide) rfl q0 he hv q d kk
theorem gfN_X5_0 {X : CX} {Z : GZ} {R : Room} {cc : ByteArray} {own : String} {nL kc ks : Nat} {ws : va_W} {pc : Nat} {lv : List (Nat × Value)} {st : List Value} {ix a : Nat} {fs : List Value} {host : String} {v : Value} (q0 : Nat) (he : ws[q0]? = some (a, .inr (5, fs))) (hv : fs[0]? = some v) (q : Cond.fieldLinkNest own ix RX5 "flash" "LTicketJournal$Flash;" host ∈ lw_ns) (d : decode cc pc = .ok (.getfield ix, 3)) (kk : AtK X Z R cc own nL kc ks ws (pc + 3) lv (v :: st)) : AtK X Z R cc own nL kc ks ws pc lv (.ref a :: st) := r_getfN (T := TX5) (N := 7) kX5 rfl 0 (by decide) rfl q0 he hv q d kk
theorem gfN_X5_3 {X : CX} {Z : GZ} {R : Room} {cc : ByteArray} {own : String} {nL kc ks : Nat} {ws : va_W} {pc : Nat} {lv : List (Nat × Value)} {st : List Value} {ix a : Nat} {fs : List Value} {host : String} {v : Value} (q0 : Nat) (he : ws[q0]? = some (a, .inr (5, fs))) (hv : fs[3]? = some v) (q : Cond.fieldLinkNest own ix RX5 "on" "Z" host ∈ lw_ns) (d : decode cc pc = .ok (.getfield ix, 3)) (kk : AtK X Z R cc own nL kc ks ws (pc + 3) lv (v :: st)) : AtK X Z R cc own nL kc ks ws pc lv (.ref a :: st) := r_getfN (T := TX5) (N := 7) kX5 rfl 3 (by decide) rfl q0 he hv q d kk
theorem gfN_X5_1 {X : CX} {Z : GZ} {R : Room} {cc : ByteArray} {own : String} {nL kc ks : Nat} {ws : va_W} {pc : Nat} {lv : List (Nat × Value)} {st : List Value} {ix a : Nat} {fs : List Value} {host : String} {v : Value} (q0 : Nat) (he : ws[q0]? = some (a, .inr (5, fs))) (hv : fs[1]? = some v) (q : Cond.fieldLinkNest own ix RX5 "memory" "LTicketJournal$Memory;" host ∈ lw_ns) (d : decode cc pc = .ok (.getfield ix, 3)) (kk : AtK X Z R cc own nL kc ks ws (pc + 3) lv (v :: st)) : AtK X Z R cc own nL kc ks ws pc lv (.ref a :: st) := r_getfN (T := TX5) (N := 7) kX5 rfl 1 (by decide) rfl q0 he hv q d kk
theorem gfN_X5_4 {X : CX} {Z : GZ} {R : Room} {cc : ByteArray} {own : String} {nL kc ks : Nat} {ws : va_W} {pc : Nat} {lv : List (Nat × Value)} {st : List Value} {ix a : Nat} {fs : List Value} {host : String} {v : Value} (q0 : Nat) (he : ws[q0]? = some (a, .inr (5, fs))) (hv : fs[4]? = some v) (q : Cond.fieldLinkNest own ix RX5 "time" "I" host ∈ lw_ns) (d : decode cc pc = .ok (.getfield ix, 3)) (kk : AtK X Z R cc own nL kc ks ws (pc + 3) lv (v :: st)) : AtK X Z R cc own nL kc ks ws pc lv (.ref a :: st) := r_getfN (T := TX5) (N := 7) kX5 rfl 4 (by decide) rfl q0 he hv q d kk
theorem gfN_X5_5 {X : CX} {Z : GZ} {R : Room} {cc : ByteArray} {own : String} {nL kc ks : Nat} {ws : va_W} {pc : Nat} {lv : List (Nat × Value)} {st : List Value} {ix a : Nat} {fs : List Value} {host : String} {v : Value} (q0 : Nat) (he : ws[q0]? = some (a, .inr (5, fs))) (hv : fs[5]? = some v) (q : Cond.fieldLinkNest own ix RX5 "there" "I" host ∈ lw_ns) (d : decode cc pc = .ok (.getfield ix, 3)) (kk : AtK X Z R cc own nL kc ks ws (pc + 3) lv (v :: st)) : AtK X Z R cc own nL kc ks ws pc lv (.ref a :: st) := r_getfN (T := TX5) (N := 7) kX5 rfl 5 (by decide) rfl q0 he hv q d kk
theorem gfN_X5_6 {X : CX} {Z : GZ} {R : Room} {cc : ByteArray} {own : String} {nL kc ks : Nat} {ws : va_W} {pc : Nat} {lv : List (Nat × Value)} {st : List Value} {ix a : Nat} {fs : List Value} {host : String} {v : Value} (q0 : Nat) (he : ws[q0]? = some (a, .inr (5, fs))) (hv : fs[6]? = some v) (q : Cond.fieldLinkNest own ix RX5 "printed" "I" host ∈ lw_ns) (d : decode cc pc = .ok (.getfield ix, 3)) (kk : AtK X Z R cc own nL kc ks ws (pc + 3) lv (v :: st)) : AtK X Z R cc own nL kc ks ws pc lv (.ref a :: st) := r_getfN (T := TX5) (N := 7) kX5 rfl 6 (by decide) rfl q0 he hv q d kk
theorem gfN_X0_2 {X : CX} {Z : GZ} {R : Room} {cc : ByteArray} {own : String} {nL kc ks : Nat} {ws : va_W} {pc : Nat} {lv : List (Nat × Value)} {st : List Value} {ix a : Nat} {fs : List Value} {host : String} {v : Value} (q0 : Nat) (he : ws[q0]? = some (a, .inr (0, fs))) (hv : fs[2]? = some v) (q : Cond.fieldLinkNest own ix RX0 "done" "I" host ∈ lw_ns) (d : decode cc pc = .ok (.getfield ix, 3)) (kk : AtK X Z R cc own nL kc ks ws (pc + 3) lv (v :: st)) : AtK X Z R cc own nL kc ks ws pc lv (.ref a :: st) := r_getfN (T := TX0) (N := 4) kX0 rfl 2 (by decide) rfl q0 he hv q d kk
theorem gfN_X0_3 {X : CX} {Z : GZ} {R : Room} {cc : ByteArray} {own : String} {nL kc ks : Nat} {ws : va_W} {pc : Nat} {lv : List (Nat × Value)} {st : List Value} {ix a : Nat} {fs : List Value} {host : String} {v : Value} (q0 : Nat) (he : ws[q0]? = some (a, .inr (0, fs))) (hv : fs[3]? = some v) (q : Cond.fieldLinkNest own ix RX0 "left" "I" host ∈ lw_ns) (d : decode cc pc = .ok (.getfield ix, 3)) (kk : AtK X Z R cc own nL kc ks ws (pc + 3) lv (v :: st)) : AtK X Z R cc own nL kc ks ws pc lv (.ref a :: st) := r_getfN (T := TX0) (N := 4) kX0 rfl 3 (by decide) rfl q0 he hv q d kk
theorem gf_X6_3 {X : CX} {Z : GZ} {R : Room} {cc : ByteArray} {own : String} {nL kc ks : Nat} {ws : va_W} {pc : Nat} {lv : List (Nat × Value)} {st : List Value} {ix a : Nat} {fs : List Value} {v : Value} (q0 : Nat) (he : ws[q0]? = some (a, .inr (6, fs))) (hv : fs[3]? = some v) (q : Cond.fieldLink own ix RX6 "past" "LTicketJournal$Past;" ∈ lw_tb) (d : decode cc pc = .ok (.getfield ix, 3)) (kk : AtK X Z R cc own nL kc ks ws (pc + 3) lv (v :: st)) : AtK X Z R cc own nL kc ks ws pc lv (.ref a :: st) := r_getf (T := TX6) (N := 5) kX6 rfl 3 (by decide) rfl q0 he hv q d kk
theorem gfN_X4_2 {X : CX} {Z : GZ} {R : Room} {cc : ByteArray} {own : String} {nL kc ks : Nat} {ws : va_W} {pc : Nat} {lv : List (Nat × Value)} {st : List Value} {ix a : Nat} {fs : List Value} {host : String} {v : Value} (q0 : Nat) (he : ws[q0]? = some (a, .inr (4, fs))) (hv : fs[2]? = some v) (q : Cond.fieldLinkNest own ix RX4 "size" "I" host ∈ lw_ns) (d : decode cc pc = .ok (.getfield ix, 3)) (kk : AtK X Z R cc own nL kc ks ws (pc + 3) lv (v :: st)) : AtK X Z R cc own nL kc ks ws pc lv (.ref a :: st) := r_getfN (T := TX4) (N := 3) kX4 rfl 2 (by decide) rfl q0 he hv q d kk
theorem gf_X6_1 {X : CX} {Z : GZ} {R : Room} {cc : ByteArray} {own : String} {nL kc ks : Nat} {ws : va_W} {pc : Nat} {lv : List (Nat × Value)} {st : List Value} {ix a : Nat} {fs : List Value} {v : Value} (q0 : Nat) (he : ws[q0]? = some (a, .inr (6, fs))) (hv : fs[1]? = some v) (q : Cond.fieldLink own ix RX6 "trial" "LTicketJournal$Printer;" ∈ lw_tb) (d : decode cc pc = .ok (.getfield ix, 3)) (kk : AtK X Z R cc own nL kc ks ws (pc + 3) lv (v :: st)) : AtK X Z R cc own nL kc ks ws pc lv (.ref a :: st) := r_getf (T := TX6) (N := 5) kX6 rfl 1 (by decide) rfl q0 he hv q d kk
theorem pfN_X0_3 {X : CX} {Z : GZ} {R : Room} {cc : ByteArray} {own : String} {nL kc ks : Nat} {ws : va_W} {pc : Nat} {lv : List (Nat × Value)} {st : List Value} {ix a : Nat} {fs : List Value} {host : String} {x : Int32} (q0 : Nat) (he : ws[q0]? = some (a, .inr (0, fs))) (hle : 3 < fs.length) (q : Cond.fieldLinkNest own ix RX0 "left" "I" host ∈ lw_ns) (d : decode cc pc = .ok (.putfield ix, 3)) {ws' : va_W} (hw9 : ws.set q0 (a, .inr (0, fs.set 3 (.int x))) = ws') (kk : AtK X Z R cc own nL kc ks ws' (pc + 3) lv st) : AtK X Z R cc own nL kc ks ws pc lv (.int x :: .ref a :: st) := r_putfN (T := TX0) (N := 4) (host := host) kX0 rfl 3 (by decide) rfl tyX0 tyX0_ok nmX0 rfl (ty := .int) (by decide +kernel) rfl rfl q0 he hle q d hw9 kk
theorem gf_X6_2 {X : CX} {Z : GZ} {R : Room} {cc : ByteArray} {own : String} {nL kc ks : Nat} {ws : va_W} {pc : Nat} {lv : List (Nat × Value)} {st : List Value} {ix a : Nat} {fs : List Value} {v : Value} (q0 : Nat) (he : ws[q0]? = some (a, .inr (6, fs))) (hv : fs[2]? = some v) (q : Cond.fieldLink own ix RX6 "journal" "LTicketJournal$Journal;" ∈ lw_tb) (d : decode cc pc = .ok (.getfield ix, 3)) (kk : AtK X Z R cc own nL kc ks ws (pc + 3) lv (v :: st)) : AtK X Z R cc own nL kc ks ws pc lv (.ref a :: st) := r_getf (T := TX6) (N := 5) kX6 rfl 2 (by decide) rfl q0 he hv q d kk
theorem pfN_X5_4 {X : CX} {Z : GZ} {R : Room} {cc : ByteArray} {own : String} {nL kc ks : Nat} {ws : va_W} {pc : Nat} {lv : List (Nat × Value)} {st : List Value} {ix a : Nat} {fs : List Value} {host : String} {x : Int32} (q0 : Nat) (he : ws[q0]? = some (a, .inr (5, fs))) (hle : 4 < fs.length) (q : Cond.fieldLinkNest own ix RX5 "time" "I" host ∈ lw_ns) (d : decode cc pc = .ok (.putfield ix, 3)) {ws' : va_W} (hw9 : ws.set q0 (a, .inr (5, fs.set 4 (.int x))) = ws') (kk : AtK X Z R cc own nL kc ks ws' (pc + 3) lv st) : AtK X Z R cc own nL kc ks ws pc lv (.int x :: .ref a :: st) := r_putfN (T := TX5) (N := 7) (host := host) kX5 rfl 4 (by decide) rfl tyX5 tyX5_ok nmX5 rfl (ty := .int) (by decide +kernel) rfl rfl q0 he hle q d hw9 kk
theorem gfN_X1_1 {X : CX} {Z : GZ} {R : Room} {cc : ByteArray} {own : String} {nL kc ks : Nat} {ws : va_W} {pc : Nat} {lv : List (Nat × Value)} {st : List Value} {ix a : Nat} {fs : List Value} {host : String} {v : Value} (q0 : Nat) (he : ws[q0]? = some (a, .inr (1, fs))) (hv : fs[1]? = some v) (q : Cond.fieldLinkNest own ix RX1 "filled" "Z" host ∈ lw_ns) (d : decode cc pc = .ok (.getfield ix, 3)) (kk : AtK X Z R cc own nL kc ks ws (pc + 3) lv (v :: st)) : AtK X Z R cc own nL kc ks ws pc lv (.ref a :: st) := r_getfN (T := TX1) (N := 2) kX1 rfl 1 (by decide) rfl q0 he hv q d kk
theorem gfN_X1_0 {X : CX} {Z : GZ} {R : Room} {cc : ByteArray} {own : String} {nL kc ks : Nat} {ws : va_W} {pc : Nat} {lv : List (Nat × Value)} {st : List Value} {ix a : Nat} {fs : List Value} {host : String} {v : Value} (q0 : Nat) (he : ws[q0]? = some (a, .inr (1, fs))) (hv : fs[0]? = some v) (q : Cond.fieldLinkNest own ix RX1 "state" "LTicketJournal$Printer;" host ∈ lw_ns) (d : decode cc pc = .ok (.getfield ix, 3)) (kk : AtK X Z R cc own nL kc ks ws (pc + 3) lv (v :: st)) : AtK X Z R cc own nL kc ks ws pc lv (.ref a :: st) := r_getfN (T := TX1) (N := 2) kX1 rfl 0 (by decide) rfl q0 he hv q d kk
end
section
-- TicketJournal.isWithin(III)Z
abbrev rm_X6_isWithin : Room := { frames := 0, cells := 0, slots := 0, locals := 0 }
def g_X6_isWithin_14    : Option (Int32) :=
  some (0)
def g_X6_isWithin  (n1 : Int32) (n2 : Int32) (n3 : Int32) : Option (Int32) :=
  (if n1 < n2 then g_X6_isWithin_14 else (if n3 < n1 then g_X6_isWithin_14 else some (1)))
set_option maxHeartbeats 4000000 in
set_option maxRecDepth 100000 in
theorem c_X6_isWithin (Z : GZ) (l : Launch)   (n1 : Int32) (n2 : Int32) (n3 : Int32) (o : (Int32)) (hg : g_X6_isWithin n1 n2 n3 = some o) : Con Z l yX6_isWithin cX6_isWithin 3 (some .boolean) rm_X6_isWithin [.int n1, .int n2, .int n3] (([] : va_W)) (some (.int o)) (([] : va_W)) := by
  refine Con.of (by decide) (Nat.le_of_ble_eq_true rfl) ?_
  intro X hE0
  have hE : ∀ z, z = o → endsX X Z (some .boolean) (some (.int z)) (([] : va_W)) := by
    rintro _ rfl; exact hE0
  have J14 : g_X6_isWithin_14 = some o → AtK X Z rm_X6_isWithin cX6_isWithin RX6 3 0 0 (([] : va_W)) 14 [] [] := by
    intro  hg
    unfold g_X6_isWithin_14 at hg
    refine r_iconst (v := 0) dX6_isWithin_14 kic_0 ?_
    exact r_bret (hE _ (Option.some.inj hg)) (by decide) dX6_isWithin_15
  unfold g_X6_isWithin at hg
  show AtK X Z rm_X6_isWithin cX6_isWithin RX6 3 0 0 (([] : va_W)) 0 [(0, .int n1), (1, .int n2), (2, .int n3)] []
  refine r_iload_n dX6_isWithin_0 0 rfl ?_
  refine r_iload_n dX6_isWithin_1 1 rfl ?_
  refine r_icmp_lt (tgt := 14) dX6_isWithin_2 (by decide) (fun h2 => ?_) (fun h2 => ?_)
  · replace hg := (if_pos h2).symm.trans hg
    exact r_sub [] rfl (J14 hg)
  · replace hg := (if_neg h2).symm.trans hg
    refine r_iload_n dX6_isWithin_5 0 rfl ?_
    refine r_iload_n dX6_isWithin_6 2 rfl ?_
    refine r_icmp_gt (tgt := 14) dX6_isWithin_7 (by decide) (fun h7 => ?_) (fun h7 => ?_)
    · replace hg := (if_pos h7).symm.trans hg
      exact r_sub [] rfl (J14 hg)
    · replace hg := (if_neg h7).symm.trans hg
      refine r_iconst (v := 1) dX6_isWithin_10 kic_1 ?_
      refine r_goto (tgt := 15) dX6_isWithin_11 (by decide) ?_
      exact r_bret (hE _ (Option.some.inj hg)) (by decide) dX6_isWithin_15

-- TicketJournal.isSort(I)Z
abbrev rm_X6_isSort : Room := { frames := 1, cells := 0, slots := 0, locals := 22 }
def g_X6_isSort  (n1 : Int32) : Option (Int32) :=
  (g_X6_isWithin n1 0 3).bind fun o3 => (if ¬ (o3 = 0 ∨ o3 = 1) then none else some (o3))
set_option maxHeartbeats 4000000 in
set_option maxRecDepth 100000 in
theorem c_X6_isSort (Z : GZ) (l : Launch)   (n1 : Int32) (o : (Int32)) (hg : g_X6_isSort n1 = some o) : Con Z l yX6_isSort cX6_isSort 1 (some .boolean) rm_X6_isSort [.int n1] (([] : va_W)) (some (.int o)) (([] : va_W)) := by
  refine Con.of (by decide) (Nat.le_of_ble_eq_true rfl) ?_
  intro X hE0
  have hE : ∀ z, z = o → endsX X Z (some .boolean) (some (.int z)) (([] : va_W)) := by
    rintro _ rfl; exact hE0
  unfold g_X6_isSort at hg
  show AtK X Z rm_X6_isSort cX6_isSort RX6 1 0 0 (([] : va_W)) 0 [(0, .int n1)] []
  refine r_iload_n dX6_isSort_0 0 rfl ?_
  refine r_iconst (v := 0) dX6_isSort_1 kic_0 ?_
  refine r_iconst (v := 3) dX6_isSort_2 kic_3 ?_
  obtain ⟨o3, e3, hg⟩ := ob hg
  refine r_callS (As := [.int n1, .int 0, .int 3]) (rest := []) (ws' := ([] : va_W)) (fun l => c_X6_isWithin Z l   n1 0 3 o3 e3) qw_195 ms_X6_isWithin xPk.none ⟨Nat.le_of_ble_eq_true rfl, Nat.le_of_ble_eq_true rfl⟩ ⟨rfl, rfl⟩ ⟨Nat.zero_le _, Nat.zero_le _⟩ rfl (Nat.le_of_ble_eq_true rfl) rfl dX6_isSort_3 ?_
  obtain ⟨hz6, hg⟩ := og hg
  exact r_bret (hE _ (Option.some.inj hg)) (Decidable.not_not.mp hz6) dX6_isSort_6

-- TicketJournal.isBlock(I)Z
abbrev rm_X6_isBlock : Room := { frames := 1, cells := 0, slots := 0, locals := 22 }
def g_X6_isBlock  (n1 : Int32) : Option (Int32) :=
  (g_X6_isWithin n1 0 4).bind fun o3 => (if ¬ (o3 = 0 ∨ o3 = 1) then none else some (o3))
set_option maxHeartbeats 4000000 in
set_option maxRecDepth 100000 in
theorem c_X6_isBlock (Z : GZ) (l : Launch)   (n1 : Int32) (o : (Int32)) (hg : g_X6_isBlock n1 = some o) : Con Z l yX6_isBlock cX6_isBlock 1 (some .boolean) rm_X6_isBlock [.int n1] (([] : va_W)) (some (.int o)) (([] : va_W)) := by
  refine Con.of (by decide) (Nat.le_of_ble_eq_true rfl) ?_
  intro X hE0
  have hE : ∀ z, z = o → endsX X Z (some .boolean) (some (.int z)) (([] : va_W)) := by
    rintro _ rfl; exact hE0
  unfold g_X6_isBlock at hg
  show AtK X Z rm_X6_isBlock cX6_isBlock RX6 1 0 0 (([] : va_W)) 0 [(0, .int n1)] []
  refine r_iload_n dX6_isBlock_0 0 rfl ?_
  refine r_iconst (v := 0) dX6_isBlock_1 kic_0 ?_
  refine r_iconst (v := 4) dX6_isBlock_2 kic_4 ?_
  obtain ⟨o3, e3, hg⟩ := ob hg
  refine r_callS (As := [.int n1, .int 0, .int 4]) (rest := []) (ws' := ([] : va_W)) (fun l => c_X6_isWithin Z l   n1 0 4 o3 e3) qw_195 ms_X6_isWithin xPk.none ⟨Nat.le_of_ble_eq_true rfl, Nat.le_of_ble_eq_true rfl⟩ ⟨rfl, rfl⟩ ⟨Nat.zero_le _, Nat.zero_le _⟩ rfl (Nat.le_of_ble_eq_true rfl) rfl dX6_isBlock_3 ?_
  obtain ⟨hz6, hg⟩ := og hg
  exact r_bret (hE _ (Option.some.inj hg)) (Decidable.not_not.mp hz6) dX6_isBlock_6

-- TicketJournal.lengthOf(I)I
abbrev rm_X6_lengthOf : Room := { frames := 0, cells := 0, slots := 0, locals := 0 }
def g_X6_lengthOf  (n1 : Int32) : Option (Int32) :=
  some ((40 + (20 * n1)))
set_option maxHeartbeats 4000000 in
set_option maxRecDepth 100000 in
theorem c_X6_lengthOf (Z : GZ) (l : Launch)   (n1 : Int32) (o : (Int32)) (hg : g_X6_lengthOf n1 = some o) : Con Z l yX6_lengthOf cX6_lengthOf 1 (some .int) rm_X6_lengthOf [.int n1] (([] : va_W)) (some (.int o)) (([] : va_W)) := by
  refine Con.of (by decide) (Nat.le_of_ble_eq_true rfl) ?_
  intro X hE0
  have hE : ∀ z, z = o → endsX X Z (some .int) (some (.int z)) (([] : va_W)) := by
    rintro _ rfl; exact hE0
  unfold g_X6_lengthOf at hg
  show AtK X Z rm_X6_lengthOf cX6_lengthOf RX6 1 0 0 (([] : va_W)) 0 [(0, .int n1)] []
  refine r_bipush (v := 40) dX6_lengthOf_0 kbp_40 ?_
  refine r_bipush (v := 20) dX6_lengthOf_2 kbp_20 ?_
  refine r_iload_n dX6_lengthOf_4 0 rfl ?_
  refine r_imul dX6_lengthOf_5 ?_
  refine r_iadd dX6_lengthOf_6 ?_
  exact r_iret (hE _ (Option.some.inj hg)) dX6_lengthOf_7

-- TicketJournal.headerCheck(IIIII)I
abbrev rm_X6_headerCheck : Room := { frames := 0, cells := 0, slots := 0, locals := 0 }
def g_X6_headerCheck  (n1 : Int32) (n2 : Int32) (n3 : Int32) (n4 : Int32) (n5 : Int32) : Option (Int32) :=
  some ((jrem ((((((3 * n1) + (5 * n2)) + (7 * n3)) + (11 * n4)) + (13 * n5)) + 1) 65521))
set_option maxHeartbeats 4000000 in
set_option maxRecDepth 100000 in
theorem c_X6_headerCheck (Z : GZ) (l : Launch)   (n1 : Int32) (n2 : Int32) (n3 : Int32) (n4 : Int32) (n5 : Int32) (o : (Int32)) (hg : g_X6_headerCheck n1 n2 n3 n4 n5 = some o) : Con Z l yX6_headerCheck cX6_headerCheck 5 (some .int) rm_X6_headerCheck [.int n1, .int n2, .int n3, .int n4, .int n5] (([] : va_W)) (some (.int o)) (([] : va_W)) := by
  refine Con.of (by decide) (Nat.le_of_ble_eq_true rfl) ?_
  intro X hE0
  have hE : ∀ z, z = o → endsX X Z (some .int) (some (.int z)) (([] : va_W)) := by
    rintro _ rfl; exact hE0
  unfold g_X6_headerCheck at hg
  show AtK X Z rm_X6_headerCheck cX6_headerCheck RX6 5 0 0 (([] : va_W)) 0 [(0, .int n1), (1, .int n2), (2, .int n3), (3, .int n4), (4, .int n5)] []
  refine r_iconst (v := 3) dX6_headerCheck_0 kic_3 ?_
  refine r_iload_n dX6_headerCheck_1 0 rfl ?_
  refine r_imul dX6_headerCheck_2 ?_
  refine r_iconst (v := 5) dX6_headerCheck_3 kic_5 ?_
  refine r_iload_n dX6_headerCheck_4 1 rfl ?_
  refine r_imul dX6_headerCheck_5 ?_
  refine r_iadd dX6_headerCheck_6 ?_
  refine r_bipush (v := 7) dX6_headerCheck_7 kbp_7 ?_
  refine r_iload_n dX6_headerCheck_9 2 rfl ?_
  refine r_imul dX6_headerCheck_10 ?_
  refine r_iadd dX6_headerCheck_11 ?_
  refine r_bipush (v := 11) dX6_headerCheck_12 kbp_11 ?_
  refine r_iload_n dX6_headerCheck_14 3 rfl ?_
  refine r_imul dX6_headerCheck_15 ?_
  refine r_iadd dX6_headerCheck_16 ?_
  refine r_bipush (v := 13) dX6_headerCheck_17 kbp_13 ?_
  refine r_iload dX6_headerCheck_19 4 rfl ?_
  refine r_imul dX6_headerCheck_21 ?_
  refine r_iadd dX6_headerCheck_22 ?_
  refine r_iconst (v := 1) dX6_headerCheck_23 kic_1 ?_
  refine r_iadd dX6_headerCheck_24 ?_
  refine r_ldc qw_275 dX6_headerCheck_25 ?_
  refine r_irem dX6_headerCheck_27 (by decide) ?_
  exact r_iret (hE _ (Option.some.inj hg)) dX6_headerCheck_28

-- TicketJournal.recordCheck(IIII)I
abbrev rm_X6_recordCheck : Room := { frames := 0, cells := 0, slots := 0, locals := 0 }
def g_X6_recordCheck  (n1 : Int32) (n2 : Int32) (n3 : Int32) (n4 : Int32) : Option (Int32) :=
  some ((jrem (((((3 * n1) + (5 * n2)) + (7 * n3)) + (11 * n4)) + 2) 65521))
set_option maxHeartbeats 4000000 in
set_option maxRecDepth 100000 in
theorem c_X6_recordCheck (Z : GZ) (l : Launch)   (n1 : Int32) (n2 : Int32) (n3 : Int32) (n4 : Int32) (o : (Int32)) (hg : g_X6_recordCheck n1 n2 n3 n4 = some o) : Con Z l yX6_recordCheck cX6_recordCheck 4 (some .int) rm_X6_recordCheck [.int n1, .int n2, .int n3, .int n4] (([] : va_W)) (some (.int o)) (([] : va_W)) := by
  refine Con.of (by decide) (Nat.le_of_ble_eq_true rfl) ?_
  intro X hE0
  have hE : ∀ z, z = o → endsX X Z (some .int) (some (.int z)) (([] : va_W)) := by
    rintro _ rfl; exact hE0
  unfold g_X6_recordCheck at hg
  show AtK X Z rm_X6_recordCheck cX6_recordCheck RX6 4 0 0 (([] : va_W)) 0 [(0, .int n1), (1, .int n2), (2, .int n3), (3, .int n4)] []
  refine r_iconst (v := 3) dX6_recordCheck_0 kic_3 ?_
  refine r_iload_n dX6_recordCheck_1 0 rfl ?_
  refine r_imul dX6_recordCheck_2 ?_
  refine r_iconst (v := 5) dX6_recordCheck_3 kic_5 ?_
  refine r_iload_n dX6_recordCheck_4 1 rfl ?_
  refine r_imul dX6_recordCheck_5 ?_
  refine r_iadd dX6_recordCheck_6 ?_
  refine r_bipush (v := 7) dX6_recordCheck_7 kbp_7 ?_
  refine r_iload_n dX6_recordCheck_9 2 rfl ?_
  refine r_imul dX6_recordCheck_10 ?_
  refine r_iadd dX6_recordCheck_11 ?_
  refine r_bipush (v := 11) dX6_recordCheck_12 kbp_11 ?_
  refine r_iload_n dX6_recordCheck_14 3 rfl ?_
  refine r_imul dX6_recordCheck_15 ?_
  refine r_iadd dX6_recordCheck_16 ?_
  refine r_iconst (v := 2) dX6_recordCheck_17 kic_2 ?_
  refine r_iadd dX6_recordCheck_18 ?_
  refine r_ldc qw_275 dX6_recordCheck_19 ?_
  refine r_irem dX6_recordCheck_21 (by decide) ?_
  exact r_iret (hE _ (Option.some.inj hg)) dX6_recordCheck_22

-- TicketJournal$Flash.spendOperation()Z
abbrev rm_X0_spendOperation : Room := { frames := 0, cells := 0, slots := 0, locals := 0 }
def g_X0_spendOperation_34   (fl : Nat → Int32) : Option (Int32 × (Nat → Int32)) :=
  some (1, (upd fl 0 ((fl 0) + 1)))
def g_X0_spendOperation (fl : Nat → Int32)  : Option (Int32 × (Nat → Int32)) :=
  (if (fl 1) = 0 then some (0, (upd fl 1 (-9))) else (if (fl 1) = (-9) then g_X0_spendOperation_34 fl else g_X0_spendOperation_34 (upd fl 1 ((fl 1) - 1))))
set_option maxHeartbeats 4000000 in
set_option maxRecDepth 100000 in
theorem c_X0_spendOperation (Z : GZ) (l : Launch) (h : Nat) (hw : Nat) (he : Nat) (w : Nat → Int32) (er : Nat → Int32) (fl : Nat → Int32)  (o : (Int32 × (Nat → Int32))) (hg : g_X0_spendOperation fl = some o) : Con Z l yX0_spendOperation cX0_spendOperation 1 (some .boolean) rm_X0_spendOperation [.ref h] (wF Z h hw he w er fl) (some (.int o.1)) (wF Z h hw he w er o.2) := by
  refine Con.of (by decide) (Nat.le_of_ble_eq_true rfl) ?_
  intro X hE0
  have hE : ∀ z, z = o → endsX X Z (some .boolean) (some (.int z.1)) (wF Z h hw he w er z.2) := by
    rintro _ rfl; exact hE0
  have J34 : ∀ (fl : Nat → Int32), g_X0_spendOperation_34 fl = some o → AtK X Z rm_X0_spendOperation cX0_spendOperation RX0 1 0 0 (wF Z h hw he w er fl) 34 [(0, .ref h)] [] := by
    intro fl hg
    unfold g_X0_spendOperation_34 at hg
    refine r_aload_n dX0_spendOperation_34 0 rfl ?_
    refine r_dup dX0_spendOperation_35 rfl ?_
    refine gf_X0_2 (v := .int (fl 0)) 0 rfl rfl qw_45 dX0_spendOperation_36 ?_
    refine r_iconst (v := 1) dX0_spendOperation_39 kic_1 ?_
    refine r_iadd dX0_spendOperation_40 ?_
    refine pf_X0_2 0 rfl (Nat.le_of_ble_eq_true rfl) qw_45 dX0_spendOperation_41 (ws' := wF Z h hw he w er (upd fl 0 ((fl 0) + 1))) rfl ?_
    refine r_iconst (v := 1) dX0_spendOperation_44 kic_1 ?_
    exact r_bret (hE _ (Option.some.inj hg)) (by decide) dX0_spendOperation_45
  unfold g_X0_spendOperation at hg
  show AtK X Z rm_X0_spendOperation cX0_spendOperation RX0 1 0 0 (wF Z h hw he w er fl) 0 [(0, .ref h)] []
  refine r_aload_n dX0_spendOperation_0 0 rfl ?_
  refine gf_X0_3 (v := .int (fl 1)) 0 rfl rfl qw_47 dX0_spendOperation_1 ?_
  refine r_if_ne (tgt := 15) dX0_spendOperation_4 (by decide) (fun h4 => ?_) (fun h4 => ?_)
  · replace hg := (if_neg h4).symm.trans hg
    refine r_aload_n dX0_spendOperation_15 0 rfl ?_
    refine gf_X0_3 (v := .int (fl 1)) 0 rfl rfl qw_47 dX0_spendOperation_16 ?_
    refine r_bipush (v := (-9)) dX0_spendOperation_19 kbp_m9 ?_
    refine r_icmp_eq (tgt := 34) dX0_spendOperation_21 (by decide) (fun h21 => ?_) (fun h21 => ?_)
    · replace hg := (if_pos h21).symm.trans hg
      exact r_sub [0] rfl (J34 fl hg)
    · replace hg := (if_neg h21).symm.trans hg
      refine r_aload_n dX0_spendOperation_24 0 rfl ?_
      refine r_dup dX0_spendOperation_25 rfl ?_
      refine gf_X0_3 (v := .int (fl 1)) 0 rfl rfl qw_47 dX0_spendOperation_26 ?_
      refine r_iconst (v := 1) dX0_spendOperation_29 kic_1 ?_
      refine r_isub dX0_spendOperation_30 ?_
      refine pf_X0_3 0 rfl (Nat.le_of_ble_eq_true rfl) qw_47 dX0_spendOperation_31 (ws' := wF Z h hw he w er (upd fl 1 ((fl 1) - 1))) rfl ?_
      exact r_sub [0] rfl (J34 (upd fl 1 ((fl 1) - 1)) hg)
  · replace hg := (if_pos h4).symm.trans hg
    refine r_aload_n dX0_spendOperation_7 0 rfl ?_
    refine r_bipush (v := (-9)) dX0_spendOperation_8 kbp_m9 ?_
    refine pf_X0_3 0 rfl (Nat.le_of_ble_eq_true rfl) qw_47 dX0_spendOperation_10 (ws' := wF Z h hw he w er (upd fl 1 (-9))) rfl ?_
    refine r_iconst (v := 0) dX0_spendOperation_13 kic_0 ?_
    exact r_bret (hE _ (Option.some.inj hg)) (by decide) dX0_spendOperation_14

-- TicketJournal$Flash.read(II)I
abbrev rm_X0_read : Room := { frames := 0, cells := 0, slots := 0, locals := 0 }
def g_X0_read_29 (w : Nat → Int32)   : Option (Int32) :=
  some (65535)
def g_X0_read (w : Nat → Int32) (n1 : Int32) (n2 : Int32) : Option (Int32) :=
  (if ((n1 * 22) + n2) < 0 then g_X0_read_29 w else (if 110 ≤ ((n1 * 22) + n2) then g_X0_read_29 w else (if ((n1 * 22) + n2) < 0 ∨ 110 ≤ ((n1 * 22) + n2).toNatClampNeg then none else some ((w ((n1 * 22) + n2).toNatClampNeg)))))
set_option maxHeartbeats 4000000 in
set_option maxRecDepth 100000 in
theorem c_X0_read (Z : GZ) (l : Launch) (h : Nat) (hw : Nat) (he : Nat) (w : Nat → Int32) (er : Nat → Int32) (fl : Nat → Int32) (n1 : Int32) (n2 : Int32) (o : (Int32)) (hg : g_X0_read w n1 n2 = some o) : Con Z l yX0_read cX0_read 4 (some .int) rm_X0_read [.ref h, .int n1, .int n2] (wF Z h hw he w er fl) (some (.int o)) (wF Z h hw he w er fl) := by
  refine Con.of (by decide) (Nat.le_of_ble_eq_true rfl) ?_
  intro X hE0
  have hE : ∀ z, z = o → endsX X Z (some .int) (some (.int z)) (wF Z h hw he w er fl) := by
    rintro _ rfl; exact hE0
  have J29 : g_X0_read_29 w = some o → AtK X Z rm_X0_read cX0_read RX0 4 0 0 (wF Z h hw he w er fl) 29 [] [] := by
    intro  hg
    unfold g_X0_read_29 at hg
    refine r_ldc qw_42 dX0_read_29 ?_
    exact r_iret (hE _ (Option.some.inj hg)) dX0_read_31
  unfold g_X0_read at hg
  show AtK X Z rm_X0_read cX0_read RX0 4 0 0 (wF Z h hw he w er fl) 0 [(0, .ref h), (1, .int n1), (2, .int n2)] []
  refine r_iload_n dX0_read_0 1 rfl ?_
  refine r_bipush (v := 22) dX0_read_1 kbp_22 ?_
  refine r_imul dX0_read_3 ?_
  refine r_iload_n dX0_read_4 2 rfl ?_
  refine r_iadd dX0_read_5 ?_
  refine r_istore_n (lv' := [(3, .int ((n1 * 22) + n2)), (0, .ref h), (1, .int n1), (2, .int n2)]) dX0_read_6 (by decide) rfl ?_
  refine r_iload_n dX0_read_7 0 rfl ?_
  refine r_if_lt (tgt := 29) dX0_read_8 (by decide) (fun h8 => ?_) (fun h8 => ?_)
  · replace hg := (if_pos h8).symm.trans hg
    exact r_sub [] rfl (J29 hg)
  · replace hg := (if_neg h8).symm.trans hg
    refine r_iload_n dX0_read_11 0 rfl ?_
    refine r_aload_n dX0_read_12 1 rfl ?_
    refine gf_X0_0 (v := .ref hw) 0 rfl rfl qw_43 dX0_read_13 ?_
    refine r_alen 1 0 rfl rfl (v := 110) (by decide) dX0_read_16 ?_
    refine r_icmp_ge (tgt := 29) dX0_read_17 (by decide) (fun h17 => ?_) (fun h17 => ?_)
    · replace hg := (if_pos h17).symm.trans hg
      exact r_sub [] rfl (J29 hg)
    · replace hg := (if_neg h17).symm.trans hg
      refine r_aload_n dX0_read_20 1 rfl ?_
      refine gf_X0_0 (v := .ref hw) 0 rfl rfl qw_43 dX0_read_21 ?_
      refine r_iload_n dX0_read_24 0 rfl ?_
      obtain ⟨hi25, hg⟩ := og hg
      refine r_iald 1 rfl hi25 dX0_read_25 ?_
      refine r_goto (tgt := 31) dX0_read_26 (by decide) ?_
      exact r_iret (hE _ (Option.some.inj hg)) dX0_read_31

-- TicketJournal$Flash.write(III)Z
abbrev rm_X0_write : Room := { frames := 1, cells := 0, slots := 0, locals := 20 }
def g_X0_write_30   (w : Nat → Int32) (fl : Nat → Int32) : Option (Int32 × (Nat → Int32) × (Nat → Int32)) :=
  some (0, w, fl)
def g_X0_write (w : Nat → Int32) (fl : Nat → Int32) (n1 : Int32) (n2 : Int32) (n3 : Int32) : Option (Int32 × (Nat → Int32) × (Nat → Int32)) :=
  (if ((n1 * 22) + n2) < 0 then g_X0_write_30 w fl else (if 110 ≤ ((n1 * 22) + n2) then g_X0_write_30 w fl else (g_X0_spendOperation fl).bind fun o24 => (if o24.1 = 0 then g_X0_write_30 w o24.2 else (if ((n1 * 22) + n2) < 0 ∨ 110 ≤ ((n1 * 22) + n2).toNatClampNeg then none else some (1, (upd w (((n1 * 22) + n2).toNatClampNeg) n3), o24.2)))))
set_option maxHeartbeats 4000000 in
set_option maxRecDepth 100000 in
theorem c_X0_write (Z : GZ) (l : Launch) (h : Nat) (hw : Nat) (he : Nat) (w : Nat → Int32) (er : Nat → Int32) (fl : Nat → Int32) (n1 : Int32) (n2 : Int32) (n3 : Int32) (o : (Int32 × (Nat → Int32) × (Nat → Int32))) (hg : g_X0_write w fl n1 n2 n3 = some o) : Con Z l yX0_write cX0_write 5 (some .boolean) rm_X0_write [.ref h, .int n1, .int n2, .int n3] (wF Z h hw he w er fl) (some (.int o.1)) (wF Z h hw he o.2.1 er o.2.2) := by
  refine Con.of (by decide) (Nat.le_of_ble_eq_true rfl) ?_
  intro X hE0
  have hE : ∀ z, z = o → endsX X Z (some .boolean) (some (.int z.1)) (wF Z h hw he z.2.1 er z.2.2) := by
    rintro _ rfl; exact hE0
  have J30 : ∀ (w : Nat → Int32) (fl : Nat → Int32), g_X0_write_30 w fl = some o → AtK X Z rm_X0_write cX0_write RX0 5 0 0 (wF Z h hw he w er fl) 30 [] [] := by
    intro w fl hg
    unfold g_X0_write_30 at hg
    refine r_iconst (v := 0) dX0_write_30 kic_0 ?_
    exact r_bret (hE _ (Option.some.inj hg)) (by decide) dX0_write_31
  unfold g_X0_write at hg
  show AtK X Z rm_X0_write cX0_write RX0 5 0 0 (wF Z h hw he w er fl) 0 [(0, .ref h), (1, .int n1), (2, .int n2), (3, .int n3)] []
  refine r_iload_n dX0_write_0 1 rfl ?_
  refine r_bipush (v := 22) dX0_write_1 kbp_22 ?_
  refine r_imul dX0_write_3 ?_
  refine r_iload_n dX0_write_4 2 rfl ?_
  refine r_iadd dX0_write_5 ?_
  refine r_istore (lv' := [(4, .int ((n1 * 22) + n2)), (0, .ref h), (1, .int n1), (2, .int n2), (3, .int n3)]) dX0_write_6 (by decide) rfl ?_
  refine r_iload dX0_write_8 0 rfl ?_
  refine r_if_lt (tgt := 30) dX0_write_10 (by decide) (fun h10 => ?_) (fun h10 => ?_)
  · replace hg := (if_pos h10).symm.trans hg
    exact r_sub [] rfl (J30 w fl hg)
  · replace hg := (if_neg h10).symm.trans hg
    refine r_iload dX0_write_13 0 rfl ?_
    refine r_aload_n dX0_write_15 1 rfl ?_
    refine gf_X0_0 (v := .ref hw) 0 rfl rfl qw_43 dX0_write_16 ?_
    refine r_alen 1 0 rfl rfl (v := 110) (by decide) dX0_write_19 ?_
    refine r_icmp_ge (tgt := 30) dX0_write_20 (by decide) (fun h20 => ?_) (fun h20 => ?_)
    · replace hg := (if_pos h20).symm.trans hg
      exact r_sub [] rfl (J30 w fl hg)
    · replace hg := (if_neg h20).symm.trans hg
      refine r_aload_n dX0_write_23 1 rfl ?_
      obtain ⟨o24, e24, hg⟩ := ob hg
      refine r_callV (As := []) (rest := []) (ws' := wF Z h hw he w er o24.2) 0 rfl rfl rfl (fun l => c_X0_spendOperation Z l h hw he w er fl  o24 e24) qw_280 mv_X0_spendOperation (xPk.all rfl) ⟨Nat.le_of_ble_eq_true rfl, Nat.le_of_ble_eq_true rfl⟩ ⟨rfl, rfl⟩ ⟨Nat.zero_le _, Nat.zero_le _⟩ rfl (Nat.le_of_ble_eq_true rfl) rfl dX0_write_24 ?_
      refine r_if_ne (tgt := 32) dX0_write_27 (by decide) (fun h27 => ?_) (fun h27 => ?_)
      · replace hg := (if_neg h27).symm.trans hg
        refine r_aload_n dX0_write_32 1 rfl ?_
        refine gf_X0_0 (v := .ref hw) 0 rfl rfl qw_43 dX0_write_33 ?_
        refine r_iload dX0_write_36 0 rfl ?_
        refine r_iload_n dX0_write_38 4 rfl ?_
        obtain ⟨hi39, hg⟩ := og hg
        refine r_iast 1 rfl rfl hi39 dX0_write_39 (ws' := wF Z h hw he (upd w (((n1 * 22) + n2).toNatClampNeg) n3) er o24.2) rfl ?_
        refine r_iconst (v := 1) dX0_write_40 kic_1 ?_
        exact r_bret (hE _ (Option.some.inj hg)) (by decide) dX0_write_41
      · replace hg := (if_pos h27).symm.trans hg
        exact r_sub [] rfl (J30 w o24.2 hg)

-- TicketJournal$Flash.erase(I)Z
abbrev rm_X0_erase : Room := { frames := 1, cells := 0, slots := 0, locals := 20 }
def g_X0_erase_20   (w : Nat → Int32) (er : Nat → Int32) (fl : Nat → Int32) : Option (Int32 × (Nat → Int32) × (Nat → Int32) × (Nat → Int32)) :=
  some (0, w, er, fl)
def g_X0_erase_60   (x1 : Int32) (w : Nat → Int32) (er : Nat → Int32) (fl : Nat → Int32) : Option (Int32 × (Nat → Int32) × (Nat → Int32) × (Nat → Int32)) :=
  (if x1 < 0 ∨ 5 ≤ x1.toNatClampNeg then none else (if x1 < 0 ∨ 5 ≤ x1.toNatClampNeg then none else some (1, w, (upd er x1.toNatClampNeg ((er x1.toNatClampNeg) + 1)), fl)))
def g_X0_erase_27   : Nat → Int32 → Int32 → (Nat → Int32) → (Nat → Int32) → (Nat → Int32) → Option (Int32 × (Nat → Int32) × (Nat → Int32) × (Nat → Int32))
  | 0 => fun _ _ _ _ _ => none
  | n + 1 => fun x1 x2 w er fl => (if ((x1 + 1) * 22) ≤ x2 then g_X0_erase_60 x1 w er fl else (if 110 ≤ x2 then g_X0_erase_60 x1 w er fl else (if x2 < 0 ∨ 110 ≤ x2.toNatClampNeg then none else (g_X0_erase_27 n) x1 (x2 + 1) (upd w x2.toNatClampNeg 65535) er fl)))
def g_X0_erase (w : Nat → Int32) (er : Nat → Int32) (fl : Nat → Int32) (n1 : Int32) : Option (Int32 × (Nat → Int32) × (Nat → Int32) × (Nat → Int32)) :=
  (if n1 < 0 then g_X0_erase_20 w er fl else (if 5 ≤ n1 then g_X0_erase_20 w er fl else (g_X0_spendOperation fl).bind fun o14 => (if o14.1 = 0 then g_X0_erase_20 w er o14.2 else g_X0_erase_27 120 n1 (n1 * 22) w er o14.2)))
set_option maxHeartbeats 4000000 in
set_option maxRecDepth 100000 in
theorem c_X0_erase (Z : GZ) (l : Launch) (h : Nat) (hw : Nat) (he : Nat) (w : Nat → Int32) (er : Nat → Int32) (fl : Nat → Int32) (n1 : Int32) (o : (Int32 × (Nat → Int32) × (Nat → Int32) × (Nat → Int32))) (hg : g_X0_erase w er fl n1 = some o) : Con Z l yX0_erase cX0_erase 3 (some .boolean) rm_X0_erase [.ref h, .int n1] (wF Z h hw he w er fl) (some (.int o.1)) (wF Z h hw he o.2.1 o.2.2.1 o.2.2.2) := by
  refine Con.of (by decide) (Nat.le_of_ble_eq_true rfl) ?_
  intro X hE0
  have hE : ∀ z, z = o → endsX X Z (some .boolean) (some (.int z.1)) (wF Z h hw he z.2.1 z.2.2.1 z.2.2.2) := by
    rintro _ rfl; exact hE0
  have J20 : ∀ (w : Nat → Int32) (er : Nat → Int32) (fl : Nat → Int32), g_X0_erase_20 w er fl = some o → AtK X Z rm_X0_erase cX0_erase RX0 3 0 0 (wF Z h hw he w er fl) 20 [] [] := by
    intro w er fl hg
    unfold g_X0_erase_20 at hg
    refine r_iconst (v := 0) dX0_erase_20 kic_0 ?_
    exact r_bret (hE _ (Option.some.inj hg)) (by decide) dX0_erase_21
  have J60 : ∀ (x1 : Int32) (w : Nat → Int32) (er : Nat → Int32) (fl : Nat → Int32), g_X0_erase_60 x1 w er fl = some o → AtK X Z rm_X0_erase cX0_erase RX0 3 0 0 (wF Z h hw he w er fl) 60 [(0, .ref h), (1, .int x1)] [] := by
    intro x1 w er fl hg
    unfold g_X0_erase_60 at hg
    refine r_aload_n dX0_erase_60 0 rfl ?_
    refine gf_X0_1 (v := .ref he) 0 rfl rfl qw_44 dX0_erase_61 ?_
    refine r_iload_n dX0_erase_64 1 rfl ?_
    refine r_dup2 dX0_erase_65 rfl rfl ?_
    obtain ⟨hi66, hg⟩ := og hg
    refine r_iald 2 rfl hi66 dX0_erase_66 ?_
    refine r_iconst (v := 1) dX0_erase_67 kic_1 ?_
    refine r_iadd dX0_erase_68 ?_
    obtain ⟨hi69, hg⟩ := og hg
    refine r_iast 2 rfl rfl hi69 dX0_erase_69 (ws' := wF Z h hw he w (upd er x1.toNatClampNeg ((er x1.toNatClampNeg) + 1)) fl) rfl ?_
    refine r_iconst (v := 1) dX0_erase_70 kic_1 ?_
    exact r_bret (hE _ (Option.some.inj hg)) (by decide) dX0_erase_71
  have J27 : ∀ (n : Nat), ∀ (x1 : Int32) (x2 : Int32) (w : Nat → Int32) (er : Nat → Int32) (fl : Nat → Int32), g_X0_erase_27 n x1 x2 w er fl = some o → AtK X Z rm_X0_erase cX0_erase RX0 3 0 0 (wF Z h hw he w er fl) 27 [(0, .ref h), (1, .int x1), (2, .int x2)] [] := by
    intro  n
    induction n with
    | zero => intro x1 x2 w er fl hg; exact nomatch (show (none : Option _) = some o from hg)
    | succ n ih =>
      intro x1 x2 w er fl hg
      unfold g_X0_erase_27 at hg
      refine r_iload_n dX0_erase_27 2 rfl ?_
      refine r_iload_n dX0_erase_28 1 rfl ?_
      refine r_iconst (v := 1) dX0_erase_29 kic_1 ?_
      refine r_iadd dX0_erase_30 ?_
      refine r_bipush (v := 22) dX0_erase_31 kbp_22 ?_
      refine r_imul dX0_erase_33 ?_
      refine r_icmp_ge (tgt := 60) dX0_erase_34 (by decide) (fun h34 => ?_) (fun h34 => ?_)
      · replace hg := (if_pos h34).symm.trans hg
        exact r_sub [0, 1] rfl (J60 x1 w er fl hg)
      · replace hg := (if_neg h34).symm.trans hg
        refine r_iload_n dX0_erase_37 2 rfl ?_
        refine r_aload_n dX0_erase_38 0 rfl ?_
        refine gf_X0_0 (v := .ref hw) 0 rfl rfl qw_43 dX0_erase_39 ?_
        refine r_alen 1 0 rfl rfl (v := 110) (by decide) dX0_erase_42 ?_
        refine r_icmp_ge (tgt := 60) dX0_erase_43 (by decide) (fun h43 => ?_) (fun h43 => ?_)
        · replace hg := (if_pos h43).symm.trans hg
          exact r_sub [0, 1] rfl (J60 x1 w er fl hg)
        · replace hg := (if_neg h43).symm.trans hg
          refine r_aload_n dX0_erase_46 0 rfl ?_
          refine gf_X0_0 (v := .ref hw) 0 rfl rfl qw_43 dX0_erase_47 ?_
          refine r_iload_n dX0_erase_50 2 rfl ?_
          refine r_ldc qw_42 dX0_erase_51 ?_
          obtain ⟨hi53, hg⟩ := og hg
          refine r_iast 1 rfl rfl hi53 dX0_erase_53 (ws' := wF Z h hw he (upd w x2.toNatClampNeg 65535) er fl) rfl ?_
          refine r_iinc (v := (x2 + 1)) (lv' := [(2, .int (x2 + 1)), (0, .ref h), (1, .int x1)]) dX0_erase_54 (k := 2) rfl rfl (by decide) rfl ?_
          refine r_goto (tgt := 27) dX0_erase_57 (by decide) ?_
          exact r_sub [1, 2, 0] rfl (ih x1 (x2 + 1) (upd w x2.toNatClampNeg 65535) er fl hg)
  unfold g_X0_erase at hg
  show AtK X Z rm_X0_erase cX0_erase RX0 3 0 0 (wF Z h hw he w er fl) 0 [(0, .ref h), (1, .int n1)] []
  refine r_iload_n dX0_erase_0 1 rfl ?_
  refine r_if_lt (tgt := 20) dX0_erase_1 (by decide) (fun h1 => ?_) (fun h1 => ?_)
  · replace hg := (if_pos h1).symm.trans hg
    exact r_sub [] rfl (J20 w er fl hg)
  · replace hg := (if_neg h1).symm.trans hg
    refine r_iload_n dX0_erase_4 1 rfl ?_
    refine r_aload_n dX0_erase_5 0 rfl ?_
    refine gf_X0_1 (v := .ref he) 0 rfl rfl qw_44 dX0_erase_6 ?_
    refine r_alen 2 0 rfl rfl (v := 5) (by decide) dX0_erase_9 ?_
    refine r_icmp_ge (tgt := 20) dX0_erase_10 (by decide) (fun h10 => ?_) (fun h10 => ?_)
    · replace hg := (if_pos h10).symm.trans hg
      exact r_sub [] rfl (J20 w er fl hg)
    · replace hg := (if_neg h10).symm.trans hg
      refine r_aload_n dX0_erase_13 0 rfl ?_
      obtain ⟨o14, e14, hg⟩ := ob hg
      refine r_callV (As := []) (rest := []) (ws' := wF Z h hw he w er o14.2) 0 rfl rfl rfl (fun l => c_X0_spendOperation Z l h hw he w er fl  o14 e14) qw_280 mv_X0_spendOperation (xPk.all rfl) ⟨Nat.le_of_ble_eq_true rfl, Nat.le_of_ble_eq_true rfl⟩ ⟨rfl, rfl⟩ ⟨Nat.zero_le _, Nat.zero_le _⟩ rfl (Nat.le_of_ble_eq_true rfl) rfl dX0_erase_14 ?_
      refine r_if_ne (tgt := 22) dX0_erase_17 (by decide) (fun h17 => ?_) (fun h17 => ?_)
      · replace hg := (if_neg h17).symm.trans hg
        refine r_iload_n dX0_erase_22 1 rfl ?_
        refine r_bipush (v := 22) dX0_erase_23 kbp_22 ?_
        refine r_imul dX0_erase_25 ?_
        refine r_istore_n (lv' := [(2, .int (n1 * 22)), (0, .ref h), (1, .int n1)]) dX0_erase_26 (by decide) rfl ?_
        exact r_sub [1, 2, 0] rfl (J27 120 n1 (n1 * 22) w er o14.2 hg)
      · replace hg := (if_pos h17).symm.trans hg
        exact r_sub [] rfl (J20 w er o14.2 hg)

-- TicketJournal$Flash.erasuresOf(I)I
abbrev rm_X0_erasuresOf : Room := { frames := 0, cells := 0, slots := 0, locals := 0 }
def g_X0_erasuresOf_22 (er : Nat → Int32)   : Option (Int32) :=
  some (0)
def g_X0_erasuresOf (er : Nat → Int32) (n1 : Int32) : Option (Int32) :=
  (if n1 < 0 then g_X0_erasuresOf_22 er else (if 5 ≤ n1 then g_X0_erasuresOf_22 er else (if n1 < 0 ∨ 5 ≤ n1.toNatClampNeg then none else some ((er n1.toNatClampNeg)))))
set_option maxHeartbeats 4000000 in
set_option maxRecDepth 100000 in
theorem c_X0_erasuresOf (Z : GZ) (l : Launch) (h : Nat) (hw : Nat) (he : Nat) (w : Nat → Int32) (er : Nat → Int32) (fl : Nat → Int32) (n1 : Int32) (o : (Int32)) (hg : g_X0_erasuresOf er n1 = some o) : Con Z l yX0_erasuresOf cX0_erasuresOf 2 (some .int) rm_X0_erasuresOf [.ref h, .int n1] (wF Z h hw he w er fl) (some (.int o)) (wF Z h hw he w er fl) := by
  refine Con.of (by decide) (Nat.le_of_ble_eq_true rfl) ?_
  intro X hE0
  have hE : ∀ z, z = o → endsX X Z (some .int) (some (.int z)) (wF Z h hw he w er fl) := by
    rintro _ rfl; exact hE0
  have J22 : g_X0_erasuresOf_22 er = some o → AtK X Z rm_X0_erasuresOf cX0_erasuresOf RX0 2 0 0 (wF Z h hw he w er fl) 22 [] [] := by
    intro  hg
    unfold g_X0_erasuresOf_22 at hg
    refine r_iconst (v := 0) dX0_erasuresOf_22 kic_0 ?_
    exact r_iret (hE _ (Option.some.inj hg)) dX0_erasuresOf_23
  unfold g_X0_erasuresOf at hg
  show AtK X Z rm_X0_erasuresOf cX0_erasuresOf RX0 2 0 0 (wF Z h hw he w er fl) 0 [(0, .ref h), (1, .int n1)] []
  refine r_iload_n dX0_erasuresOf_0 1 rfl ?_
  refine r_if_lt (tgt := 22) dX0_erasuresOf_1 (by decide) (fun h1 => ?_) (fun h1 => ?_)
  · replace hg := (if_pos h1).symm.trans hg
    exact r_sub [] rfl (J22 hg)
  · replace hg := (if_neg h1).symm.trans hg
    refine r_iload_n dX0_erasuresOf_4 1 rfl ?_
    refine r_aload_n dX0_erasuresOf_5 0 rfl ?_
    refine gf_X0_1 (v := .ref he) 0 rfl rfl qw_44 dX0_erasuresOf_6 ?_
    refine r_alen 2 0 rfl rfl (v := 5) (by decide) dX0_erasuresOf_9 ?_
    refine r_icmp_ge (tgt := 22) dX0_erasuresOf_10 (by decide) (fun h10 => ?_) (fun h10 => ?_)
    · replace hg := (if_pos h10).symm.trans hg
      exact r_sub [] rfl (J22 hg)
    · replace hg := (if_neg h10).symm.trans hg
      refine r_aload_n dX0_erasuresOf_13 0 rfl ?_
      refine gf_X0_1 (v := .ref he) 0 rfl rfl qw_44 dX0_erasuresOf_14 ?_
      refine r_iload_n dX0_erasuresOf_17 1 rfl ?_
      obtain ⟨hi18, hg⟩ := og hg
      refine r_iald 2 rfl hi18 dX0_erasuresOf_18 ?_
      refine r_goto (tgt := 23) dX0_erasuresOf_19 (by decide) ?_
      exact r_iret (hE _ (Option.some.inj hg)) dX0_erasuresOf_23

-- TicketJournal$Flash.recordWord(III)I
abbrev rm_X0_recordWord : Room := { frames := 1, cells := 0, slots := 0, locals := 23 }
def g_X0_recordWord (w : Nat → Int32) (n1 : Int32) (n2 : Int32) (n3 : Int32) : Option (Int32) :=
  (g_X0_read w n1 ((6 + (n2 * 4)) + n3)).bind fun o10 => some (o10)
set_option maxHeartbeats 4000000 in
set_option maxRecDepth 100000 in
theorem c_X0_recordWord (Z : GZ) (l : Launch) (h : Nat) (hw : Nat) (he : Nat) (w : Nat → Int32) (er : Nat → Int32) (fl : Nat → Int32) (n1 : Int32) (n2 : Int32) (n3 : Int32) (o : (Int32)) (hg : g_X0_recordWord w n1 n2 n3 = some o) : Con Z l yX0_recordWord cX0_recordWord 4 (some .int) rm_X0_recordWord [.ref h, .int n1, .int n2, .int n3] (wF Z h hw he w er fl) (some (.int o)) (wF Z h hw he w er fl) := by
  refine Con.of (by decide) (Nat.le_of_ble_eq_true rfl) ?_
  intro X hE0
  have hE : ∀ z, z = o → endsX X Z (some .int) (some (.int z)) (wF Z h hw he w er fl) := by
    rintro _ rfl; exact hE0
  unfold g_X0_recordWord at hg
  show AtK X Z rm_X0_recordWord cX0_recordWord RX0 4 0 0 (wF Z h hw he w er fl) 0 [(0, .ref h), (1, .int n1), (2, .int n2), (3, .int n3)] []
  refine r_aload_n dX0_recordWord_0 0 rfl ?_
  refine r_iload_n dX0_recordWord_1 1 rfl ?_
  refine r_bipush (v := 6) dX0_recordWord_2 kbp_6 ?_
  refine r_iload_n dX0_recordWord_4 2 rfl ?_
  refine r_iconst (v := 4) dX0_recordWord_5 kic_4 ?_
  refine r_imul dX0_recordWord_6 ?_
  refine r_iadd dX0_recordWord_7 ?_
  refine r_iload_n dX0_recordWord_8 3 rfl ?_
  refine r_iadd dX0_recordWord_9 ?_
  obtain ⟨o10, e10, hg⟩ := ob hg
  refine r_callV (As := [.int n1, .int ((6 + (n2 * 4)) + n3)]) (rest := []) (ws' := wF Z h hw he w er fl) 0 rfl rfl rfl (fun l => c_X0_read Z l h hw he w er fl n1 ((6 + (n2 * 4)) + n3) o10 e10) qw_328 mv_X0_read (xPk.all rfl) ⟨Nat.le_of_ble_eq_true rfl, Nat.le_of_ble_eq_true rfl⟩ ⟨rfl, rfl⟩ ⟨Nat.zero_le _, Nat.zero_le _⟩ rfl (Nat.le_of_ble_eq_true rfl) rfl dX0_recordWord_10 ?_
  exact r_iret (hE _ (Option.some.inj hg)) dX0_recordWord_13

-- TicketJournal$Flash.isWhole(I)Z
abbrev rm_X0_isWhole : Room := { frames := 1, cells := 0, slots := 0, locals := 24 }
def g_X0_isWhole_2 (w : Nat → Int32)  : Nat → Int32 → Int32 → Option (Int32)
  | 0 => fun _ _ => none
  | n + 1 => fun x1 x2 => (if 5 ≤ x2 then (g_X0_read w x1 0).bind fun o29 => (g_X0_read w x1 1).bind fun o35 => (g_X0_read w x1 2).bind fun o41 => (g_X0_read w x1 3).bind fun o47 => (g_X0_read w x1 4).bind fun o53 => (g_X6_headerCheck o29 o35 o41 o47 o53).bind fun o56 => (g_X0_read w x1 5).bind fun o63 => (if o63 = o56 then some (1) else some (0)) else (g_X0_read w x1 x2).bind fun o10 => (if o10 = 65535 then some (0) else (g_X0_isWhole_2 w n) x1 (x2 + 1)))
def g_X0_isWhole (w : Nat → Int32) (n1 : Int32) : Option (Int32) :=
  g_X0_isWhole_2 w 12 n1 0
set_option maxHeartbeats 4000000 in
set_option maxRecDepth 100000 in
theorem c_X0_isWhole (Z : GZ) (l : Launch) (h : Nat) (hw : Nat) (he : Nat) (w : Nat → Int32) (er : Nat → Int32) (fl : Nat → Int32) (n1 : Int32) (o : (Int32)) (hg : g_X0_isWhole w n1 = some o) : Con Z l yX0_isWhole cX0_isWhole 3 (some .boolean) rm_X0_isWhole [.ref h, .int n1] (wF Z h hw he w er fl) (some (.int o)) (wF Z h hw he w er fl) := by
  refine Con.of (by decide) (Nat.le_of_ble_eq_true rfl) ?_
  intro X hE0
  have hE : ∀ z, z = o → endsX X Z (some .boolean) (some (.int z)) (wF Z h hw he w er fl) := by
    rintro _ rfl; exact hE0
  have J2 : ∀ (n : Nat), ∀ (x1 : Int32) (x2 : Int32), g_X0_isWhole_2 w n x1 x2 = some o → AtK X Z rm_X0_isWhole cX0_isWhole RX0 3 0 0 (wF Z h hw he w er fl) 2 [(0, .ref h), (1, .int x1), (2, .int x2)] [] := by
    intro  n
    induction n with
    | zero => intro x1 x2 hg; exact nomatch (show (none : Option _) = some o from hg)
    | succ n ih =>
      intro x1 x2 hg
      unfold g_X0_isWhole_2 at hg
      refine r_iload_n dX0_isWhole_2 2 rfl ?_
      refine r_iconst (v := 5) dX0_isWhole_3 kic_5 ?_
      refine r_icmp_ge (tgt := 26) dX0_isWhole_4 (by decide) (fun h4 => ?_) (fun h4 => ?_)
      · replace hg := (if_pos h4).symm.trans hg
        refine r_aload_n dX0_isWhole_26 0 rfl ?_
        refine r_iload_n dX0_isWhole_27 1 rfl ?_
        refine r_iconst (v := 0) dX0_isWhole_28 kic_0 ?_
        obtain ⟨o29, e29, hg⟩ := ob hg
        refine r_callV (As := [.int x1, .int 0]) (rest := []) (ws' := wF Z h hw he w er fl) 0 rfl rfl rfl (fun l => c_X0_read Z l h hw he w er fl x1 0 o29 e29) qw_328 mv_X0_read (xPk.all rfl) ⟨Nat.le_of_ble_eq_true rfl, Nat.le_of_ble_eq_true rfl⟩ ⟨rfl, rfl⟩ ⟨Nat.zero_le _, Nat.zero_le _⟩ rfl (Nat.le_of_ble_eq_true rfl) rfl dX0_isWhole_29 ?_
        refine r_aload_n dX0_isWhole_32 0 rfl ?_
        refine r_iload_n dX0_isWhole_33 1 rfl ?_
        refine r_iconst (v := 1) dX0_isWhole_34 kic_1 ?_
        obtain ⟨o35, e35, hg⟩ := ob hg
        refine r_callV (As := [.int x1, .int 1]) (rest := [.int o29]) (ws' := wF Z h hw he w er fl) 0 rfl rfl rfl (fun l => c_X0_read Z l h hw he w er fl x1 1 o35 e35) qw_328 mv_X0_read (xPk.all rfl) ⟨Nat.le_of_ble_eq_true rfl, Nat.le_of_ble_eq_true rfl⟩ ⟨rfl, rfl⟩ ⟨Nat.zero_le _, Nat.zero_le _⟩ rfl (Nat.le_of_ble_eq_true rfl) rfl dX0_isWhole_35 ?_
        refine r_aload_n dX0_isWhole_38 0 rfl ?_
        refine r_iload_n dX0_isWhole_39 1 rfl ?_
        refine r_iconst (v := 2) dX0_isWhole_40 kic_2 ?_
        obtain ⟨o41, e41, hg⟩ := ob hg
        refine r_callV (As := [.int x1, .int 2]) (rest := [.int o35, .int o29]) (ws' := wF Z h hw he w er fl) 0 rfl rfl rfl (fun l => c_X0_read Z l h hw he w er fl x1 2 o41 e41) qw_328 mv_X0_read (xPk.all rfl) ⟨Nat.le_of_ble_eq_true rfl, Nat.le_of_ble_eq_true rfl⟩ ⟨rfl, rfl⟩ ⟨Nat.zero_le _, Nat.zero_le _⟩ rfl (Nat.le_of_ble_eq_true rfl) rfl dX0_isWhole_41 ?_
        refine r_aload_n dX0_isWhole_44 0 rfl ?_
        refine r_iload_n dX0_isWhole_45 1 rfl ?_
        refine r_iconst (v := 3) dX0_isWhole_46 kic_3 ?_
        obtain ⟨o47, e47, hg⟩ := ob hg
        refine r_callV (As := [.int x1, .int 3]) (rest := [.int o41, .int o35, .int o29]) (ws' := wF Z h hw he w er fl) 0 rfl rfl rfl (fun l => c_X0_read Z l h hw he w er fl x1 3 o47 e47) qw_328 mv_X0_read (xPk.all rfl) ⟨Nat.le_of_ble_eq_true rfl, Nat.le_of_ble_eq_true rfl⟩ ⟨rfl, rfl⟩ ⟨Nat.zero_le _, Nat.zero_le _⟩ rfl (Nat.le_of_ble_eq_true rfl) rfl dX0_isWhole_47 ?_
        refine r_aload_n dX0_isWhole_50 0 rfl ?_
        refine r_iload_n dX0_isWhole_51 1 rfl ?_
        refine r_iconst (v := 4) dX0_isWhole_52 kic_4 ?_
        obtain ⟨o53, e53, hg⟩ := ob hg
        refine r_callV (As := [.int x1, .int 4]) (rest := [.int o47, .int o41, .int o35, .int o29]) (ws' := wF Z h hw he w er fl) 0 rfl rfl rfl (fun l => c_X0_read Z l h hw he w er fl x1 4 o53 e53) qw_328 mv_X0_read (xPk.all rfl) ⟨Nat.le_of_ble_eq_true rfl, Nat.le_of_ble_eq_true rfl⟩ ⟨rfl, rfl⟩ ⟨Nat.zero_le _, Nat.zero_le _⟩ rfl (Nat.le_of_ble_eq_true rfl) rfl dX0_isWhole_53 ?_
        obtain ⟨o56, e56, hg⟩ := ob hg
        refine r_callSN (As := [.int o29, .int o35, .int o41, .int o47, .int o53]) (rest := []) (ws' := wF Z h hw he w er fl) (fun l => c_X6_headerCheck Z l   o29 o35 o41 o47 o53 o56 e56) qw_403 ms_X6_headerCheck xPk.none ⟨Nat.le_of_ble_eq_true rfl, Nat.le_of_ble_eq_true rfl⟩ ⟨rfl, rfl⟩ ⟨Nat.zero_le _, Nat.zero_le _⟩ rfl (Nat.le_of_ble_eq_true rfl) rfl dX0_isWhole_56 ?_
        refine r_istore_n (lv' := [(2, .int o56), (0, .ref h), (1, .int x1)]) dX0_isWhole_59 (by decide) rfl ?_
        refine r_aload_n dX0_isWhole_60 1 rfl ?_
        refine r_iload_n dX0_isWhole_61 2 rfl ?_
        refine r_iconst (v := 5) dX0_isWhole_62 kic_5 ?_
        obtain ⟨o63, e63, hg⟩ := ob hg
        refine r_callV (As := [.int x1, .int 5]) (rest := []) (ws' := wF Z h hw he w er fl) 0 rfl rfl rfl (fun l => c_X0_read Z l h hw he w er fl x1 5 o63 e63) qw_328 mv_X0_read (xPk.all rfl) ⟨Nat.le_of_ble_eq_true rfl, Nat.le_of_ble_eq_true rfl⟩ ⟨rfl, rfl⟩ ⟨Nat.zero_le _, Nat.zero_le _⟩ rfl (Nat.le_of_ble_eq_true rfl) rfl dX0_isWhole_63 ?_
        refine r_iload_n dX0_isWhole_66 0 rfl ?_
        refine r_icmp_ne (tgt := 74) dX0_isWhole_67 (by decide) (fun h67 => ?_) (fun h67 => ?_)
        · replace hg := (if_neg h67).symm.trans hg
          refine r_iconst (v := 0) dX0_isWhole_74 kic_0 ?_
          exact r_bret (hE _ (Option.some.inj hg)) (by decide) dX0_isWhole_75
        · replace hg := (if_pos h67).symm.trans hg
          refine r_iconst (v := 1) dX0_isWhole_70 kic_1 ?_
          refine r_goto (tgt := 75) dX0_isWhole_71 (by decide) ?_
          exact r_bret (hE _ (Option.some.inj hg)) (by decide) dX0_isWhole_75
      · replace hg := (if_neg h4).symm.trans hg
        refine r_aload_n dX0_isWhole_7 0 rfl ?_
        refine r_iload_n dX0_isWhole_8 1 rfl ?_
        refine r_iload_n dX0_isWhole_9 2 rfl ?_
        obtain ⟨o10, e10, hg⟩ := ob hg
        refine r_callV (As := [.int x1, .int x2]) (rest := []) (ws' := wF Z h hw he w er fl) 0 rfl rfl rfl (fun l => c_X0_read Z l h hw he w er fl x1 x2 o10 e10) qw_328 mv_X0_read (xPk.all rfl) ⟨Nat.le_of_ble_eq_true rfl, Nat.le_of_ble_eq_true rfl⟩ ⟨rfl, rfl⟩ ⟨Nat.zero_le _, Nat.zero_le _⟩ rfl (Nat.le_of_ble_eq_true rfl) rfl dX0_isWhole_10 ?_
        refine r_ldc qw_42 dX0_isWhole_13 ?_
        refine r_icmp_ne (tgt := 20) dX0_isWhole_15 (by decide) (fun h15 => ?_) (fun h15 => ?_)
        · replace hg := (if_neg h15).symm.trans hg
          refine r_iinc (v := (x2 + 1)) (lv' := [(2, .int (x2 + 1)), (0, .ref h), (1, .int x1)]) dX0_isWhole_20 (k := 2) rfl rfl (by decide) rfl ?_
          refine r_goto (tgt := 2) dX0_isWhole_23 (by decide) ?_
          exact r_sub [1, 2, 0] rfl (ih x1 (x2 + 1) hg)
        · replace hg := (if_pos h15).symm.trans hg
          refine r_iconst (v := 0) dX0_isWhole_18 kic_0 ?_
          exact r_bret (hE _ (Option.some.inj hg)) (by decide) dX0_isWhole_19
  unfold g_X0_isWhole at hg
  show AtK X Z rm_X0_isWhole cX0_isWhole RX0 3 0 0 (wF Z h hw he w er fl) 0 [(0, .ref h), (1, .int n1)] []
  refine r_iconst (v := 0) dX0_isWhole_0 kic_0 ?_
  refine r_istore_n (lv' := [(2, .int 0), (0, .ref h), (1, .int n1)]) dX0_isWhole_1 (by decide) rfl ?_
  exact r_sub [1, 2, 0] rfl (J2 12 n1 0 hg)

-- TicketJournal$Flash.isEmpty(II)Z
abbrev rm_X0_isEmpty : Room := { frames := 2, cells := 0, slots := 0, locals := 46 }
def g_X0_isEmpty_2 (w : Nat → Int32)  : Nat → Int32 → Int32 → Int32 → Option (Int32)
  | 0 => fun _ _ _ => none
  | n + 1 => fun x1 x2 x3 => (if 4 ≤ x3 then some (1) else (g_X0_recordWord w x1 x2 x3).bind fun o11 => (if o11 = 65535 then (g_X0_isEmpty_2 w n) x1 x2 (x3 + 1) else some (0)))
def g_X0_isEmpty (w : Nat → Int32) (n1 : Int32) (n2 : Int32) : Option (Int32) :=
  g_X0_isEmpty_2 w 12 n1 n2 0
set_option maxHeartbeats 4000000 in
set_option maxRecDepth 100000 in
theorem c_X0_isEmpty (Z : GZ) (l : Launch) (h : Nat) (hw : Nat) (he : Nat) (w : Nat → Int32) (er : Nat → Int32) (fl : Nat → Int32) (n1 : Int32) (n2 : Int32) (o : (Int32)) (hg : g_X0_isEmpty w n1 n2 = some o) : Con Z l yX0_isEmpty cX0_isEmpty 4 (some .boolean) rm_X0_isEmpty [.ref h, .int n1, .int n2] (wF Z h hw he w er fl) (some (.int o)) (wF Z h hw he w er fl) := by
  refine Con.of (by decide) (Nat.le_of_ble_eq_true rfl) ?_
  intro X hE0
  have hE : ∀ z, z = o → endsX X Z (some .boolean) (some (.int z)) (wF Z h hw he w er fl) := by
    rintro _ rfl; exact hE0
  have J2 : ∀ (n : Nat), ∀ (x1 : Int32) (x2 : Int32) (x3 : Int32), g_X0_isEmpty_2 w n x1 x2 x3 = some o → AtK X Z rm_X0_isEmpty cX0_isEmpty RX0 4 0 0 (wF Z h hw he w er fl) 2 [(0, .ref h), (1, .int x1), (2, .int x2), (3, .int x3)] [] := by
    intro  n
    induction n with
    | zero => intro x1 x2 x3 hg; exact nomatch (show (none : Option _) = some o from hg)
    | succ n ih =>
      intro x1 x2 x3 hg
      unfold g_X0_isEmpty_2 at hg
      refine r_iload_n dX0_isEmpty_2 3 rfl ?_
      refine r_iconst (v := 4) dX0_isEmpty_3 kic_4 ?_
      refine r_icmp_ge (tgt := 27) dX0_isEmpty_4 (by decide) (fun h4 => ?_) (fun h4 => ?_)
      · replace hg := (if_pos h4).symm.trans hg
        refine r_iconst (v := 1) dX0_isEmpty_27 kic_1 ?_
        exact r_bret (hE _ (Option.some.inj hg)) (by decide) dX0_isEmpty_28
      · replace hg := (if_neg h4).symm.trans hg
        refine r_aload_n dX0_isEmpty_7 0 rfl ?_
        refine r_iload_n dX0_isEmpty_8 1 rfl ?_
        refine r_iload_n dX0_isEmpty_9 2 rfl ?_
        refine r_iload_n dX0_isEmpty_10 3 rfl ?_
        obtain ⟨o11, e11, hg⟩ := ob hg
        refine r_callV (As := [.int x1, .int x2, .int x3]) (rest := []) (ws' := wF Z h hw he w er fl) 0 rfl rfl rfl (fun l => c_X0_recordWord Z l h hw he w er fl x1 x2 x3 o11 e11) qw_324 mv_X0_recordWord (xPk.all rfl) ⟨Nat.le_of_ble_eq_true rfl, Nat.le_of_ble_eq_true rfl⟩ ⟨rfl, rfl⟩ ⟨Nat.zero_le _, Nat.zero_le _⟩ rfl (Nat.le_of_ble_eq_true rfl) rfl dX0_isEmpty_11 ?_
        refine r_ldc qw_42 dX0_isEmpty_14 ?_
        refine r_icmp_eq (tgt := 21) dX0_isEmpty_16 (by decide) (fun h16 => ?_) (fun h16 => ?_)
        · replace hg := (if_pos h16).symm.trans hg
          refine r_iinc (v := (x3 + 1)) (lv' := [(3, .int (x3 + 1)), (0, .ref h), (1, .int x1), (2, .int x2)]) dX0_isEmpty_21 (k := 3) rfl rfl (by decide) rfl ?_
          refine r_goto (tgt := 2) dX0_isEmpty_24 (by decide) ?_
          exact r_sub [1, 2, 3, 0] rfl (ih x1 x2 (x3 + 1) hg)
        · replace hg := (if_neg h16).symm.trans hg
          refine r_iconst (v := 0) dX0_isEmpty_19 kic_0 ?_
          exact r_bret (hE _ (Option.some.inj hg)) (by decide) dX0_isEmpty_20
  unfold g_X0_isEmpty at hg
  show AtK X Z rm_X0_isEmpty cX0_isEmpty RX0 4 0 0 (wF Z h hw he w er fl) 0 [(0, .ref h), (1, .int n1), (2, .int n2)] []
  refine r_iconst (v := 0) dX0_isEmpty_0 kic_0 ?_
  refine r_istore_n (lv' := [(3, .int 0), (0, .ref h), (1, .int n1), (2, .int n2)]) dX0_isEmpty_1 (by decide) rfl ?_
  exact r_sub [1, 2, 3, 0] rfl (J2 12 n1 n2 0 hg)

-- TicketJournal$Flash.stateOf(II)I
abbrev rm_X0_stateOf : Room := { frames := 3, cells := 0, slots := 0, locals := 69 }
def g_X0_stateOf (w : Nat → Int32) (n1 : Int32) (n2 : Int32) : Option (Int32) :=
  (g_X0_isEmpty w n1 n2).bind fun o3 => (if o3 = 0 then (g_X0_recordWord w n1 n2 0).bind fun o15 => (g_X0_recordWord w n1 n2 1).bind fun o22 => (g_X0_recordWord w n1 n2 2).bind fun o29 => (g_X0_read w n1 0).bind fun o35 => (g_X6_recordCheck o15 o22 o29 o35).bind fun o38 => (g_X0_recordWord w n1 n2 3).bind fun o46 => (if o46 = o38 then some (1) else some (2)) else some (0))
set_option maxHeartbeats 4000000 in
set_option maxRecDepth 100000 in
theorem c_X0_stateOf (Z : GZ) (l : Launch) (h : Nat) (hw : Nat) (he : Nat) (w : Nat → Int32) (er : Nat → Int32) (fl : Nat → Int32) (n1 : Int32) (n2 : Int32) (o : (Int32)) (hg : g_X0_stateOf w n1 n2 = some o) : Con Z l yX0_stateOf cX0_stateOf 4 (some .int) rm_X0_stateOf [.ref h, .int n1, .int n2] (wF Z h hw he w er fl) (some (.int o)) (wF Z h hw he w er fl) := by
  refine Con.of (by decide) (Nat.le_of_ble_eq_true rfl) ?_
  intro X hE0
  have hE : ∀ z, z = o → endsX X Z (some .int) (some (.int z)) (wF Z h hw he w er fl) := by
    rintro _ rfl; exact hE0
  unfold g_X0_stateOf at hg
  show AtK X Z rm_X0_stateOf cX0_stateOf RX0 4 0 0 (wF Z h hw he w er fl) 0 [(0, .ref h), (1, .int n1), (2, .int n2)] []
  refine r_aload_n dX0_stateOf_0 0 rfl ?_
  refine r_iload_n dX0_stateOf_1 1 rfl ?_
  refine r_iload_n dX0_stateOf_2 2 rfl ?_
  obtain ⟨o3, e3, hg⟩ := ob hg
  refine r_callV (As := [.int n1, .int n2]) (rest := []) (ws' := wF Z h hw he w er fl) 0 rfl rfl rfl (fun l => c_X0_isEmpty Z l h hw he w er fl n1 n2 o3 e3) qw_320 mv_X0_isEmpty (xPk.all rfl) ⟨Nat.le_of_ble_eq_true rfl, Nat.le_of_ble_eq_true rfl⟩ ⟨rfl, rfl⟩ ⟨Nat.zero_le _, Nat.zero_le _⟩ rfl (Nat.le_of_ble_eq_true rfl) rfl dX0_stateOf_3 ?_
  refine r_if_eq (tgt := 11) dX0_stateOf_6 (by decide) (fun h6 => ?_) (fun h6 => ?_)
  · replace hg := (if_pos h6).symm.trans hg
    refine r_aload_n dX0_stateOf_11 0 rfl ?_
    refine r_iload_n dX0_stateOf_12 1 rfl ?_
    refine r_iload_n dX0_stateOf_13 2 rfl ?_
    refine r_iconst (v := 0) dX0_stateOf_14 kic_0 ?_
    obtain ⟨o15, e15, hg⟩ := ob hg
    refine r_callV (As := [.int n1, .int n2, .int 0]) (rest := []) (ws' := wF Z h hw he w er fl) 0 rfl rfl rfl (fun l => c_X0_recordWord Z l h hw he w er fl n1 n2 0 o15 e15) qw_324 mv_X0_recordWord (xPk.all rfl) ⟨Nat.le_of_ble_eq_true rfl, Nat.le_of_ble_eq_true rfl⟩ ⟨rfl, rfl⟩ ⟨Nat.zero_le _, Nat.zero_le _⟩ rfl (Nat.le_of_ble_eq_true rfl) rfl dX0_stateOf_15 ?_
    refine r_aload_n dX0_stateOf_18 0 rfl ?_
    refine r_iload_n dX0_stateOf_19 1 rfl ?_
    refine r_iload_n dX0_stateOf_20 2 rfl ?_
    refine r_iconst (v := 1) dX0_stateOf_21 kic_1 ?_
    obtain ⟨o22, e22, hg⟩ := ob hg
    refine r_callV (As := [.int n1, .int n2, .int 1]) (rest := [.int o15]) (ws' := wF Z h hw he w er fl) 0 rfl rfl rfl (fun l => c_X0_recordWord Z l h hw he w er fl n1 n2 1 o22 e22) qw_324 mv_X0_recordWord (xPk.all rfl) ⟨Nat.le_of_ble_eq_true rfl, Nat.le_of_ble_eq_true rfl⟩ ⟨rfl, rfl⟩ ⟨Nat.zero_le _, Nat.zero_le _⟩ rfl (Nat.le_of_ble_eq_true rfl) rfl dX0_stateOf_22 ?_
    refine r_aload_n dX0_stateOf_25 0 rfl ?_
    refine r_iload_n dX0_stateOf_26 1 rfl ?_
    refine r_iload_n dX0_stateOf_27 2 rfl ?_
    refine r_iconst (v := 2) dX0_stateOf_28 kic_2 ?_
    obtain ⟨o29, e29, hg⟩ := ob hg
    refine r_callV (As := [.int n1, .int n2, .int 2]) (rest := [.int o22, .int o15]) (ws' := wF Z h hw he w er fl) 0 rfl rfl rfl (fun l => c_X0_recordWord Z l h hw he w er fl n1 n2 2 o29 e29) qw_324 mv_X0_recordWord (xPk.all rfl) ⟨Nat.le_of_ble_eq_true rfl, Nat.le_of_ble_eq_true rfl⟩ ⟨rfl, rfl⟩ ⟨Nat.zero_le _, Nat.zero_le _⟩ rfl (Nat.le_of_ble_eq_true rfl) rfl dX0_stateOf_29 ?_
    refine r_aload_n dX0_stateOf_32 0 rfl ?_
    refine r_iload_n dX0_stateOf_33 1 rfl ?_
    refine r_iconst (v := 0) dX0_stateOf_34 kic_0 ?_
    obtain ⟨o35, e35, hg⟩ := ob hg
    refine r_callV (As := [.int n1, .int 0]) (rest := [.int o29, .int o22, .int o15]) (ws' := wF Z h hw he w er fl) 0 rfl rfl rfl (fun l => c_X0_read Z l h hw he w er fl n1 0 o35 e35) qw_328 mv_X0_read (xPk.all rfl) ⟨Nat.le_of_ble_eq_true rfl, Nat.le_of_ble_eq_true rfl⟩ ⟨rfl, rfl⟩ ⟨Nat.zero_le _, Nat.zero_le _⟩ rfl (Nat.le_of_ble_eq_true rfl) rfl dX0_stateOf_35 ?_
    obtain ⟨o38, e38, hg⟩ := ob hg
    refine r_callSN (As := [.int o15, .int o22, .int o29, .int o35]) (rest := []) (ws' := wF Z h hw he w er fl) (fun l => c_X6_recordCheck Z l   o15 o22 o29 o35 o38 e38) qw_329 ms_X6_recordCheck xPk.none ⟨Nat.le_of_ble_eq_true rfl, Nat.le_of_ble_eq_true rfl⟩ ⟨rfl, rfl⟩ ⟨Nat.zero_le _, Nat.zero_le _⟩ rfl (Nat.le_of_ble_eq_true rfl) rfl dX0_stateOf_38 ?_
    refine r_istore_n (lv' := [(3, .int o38), (0, .ref h), (1, .int n1), (2, .int n2)]) dX0_stateOf_41 (by decide) rfl ?_
    refine r_aload_n dX0_stateOf_42 1 rfl ?_
    refine r_iload_n dX0_stateOf_43 2 rfl ?_
    refine r_iload_n dX0_stateOf_44 3 rfl ?_
    refine r_iconst (v := 3) dX0_stateOf_45 kic_3 ?_
    obtain ⟨o46, e46, hg⟩ := ob hg
    refine r_callV (As := [.int n1, .int n2, .int 3]) (rest := []) (ws' := wF Z h hw he w er fl) 0 rfl rfl rfl (fun l => c_X0_recordWord Z l h hw he w er fl n1 n2 3 o46 e46) qw_324 mv_X0_recordWord (xPk.all rfl) ⟨Nat.le_of_ble_eq_true rfl, Nat.le_of_ble_eq_true rfl⟩ ⟨rfl, rfl⟩ ⟨Nat.zero_le _, Nat.zero_le _⟩ rfl (Nat.le_of_ble_eq_true rfl) rfl dX0_stateOf_46 ?_
    refine r_iload_n dX0_stateOf_49 0 rfl ?_
    refine r_icmp_ne (tgt := 57) dX0_stateOf_50 (by decide) (fun h50 => ?_) (fun h50 => ?_)
    · replace hg := (if_neg h50).symm.trans hg
      refine r_iconst (v := 2) dX0_stateOf_57 kic_2 ?_
      exact r_iret (hE _ (Option.some.inj hg)) dX0_stateOf_58
    · replace hg := (if_pos h50).symm.trans hg
      refine r_iconst (v := 1) dX0_stateOf_53 kic_1 ?_
      refine r_goto (tgt := 58) dX0_stateOf_54 (by decide) ?_
      exact r_iret (hE _ (Option.some.inj hg)) dX0_stateOf_58
  · replace hg := (if_neg h6).symm.trans hg
    refine r_iconst (v := 0) dX0_stateOf_9 kic_0 ?_
    exact r_iret (hE _ (Option.some.inj hg)) dX0_stateOf_10

-- TicketJournal$Flash.tallyIn(II)I
abbrev rm_X0_tallyIn : Room := { frames := 4, cells := 0, slots := 0, locals := 92 }
def g_X0_tallyIn_35 (w : Nat → Int32) (k15 : Int32 → Int32 → Int32 → Int32 → Option (Int32)) (x1 : Int32) (x2 : Int32) (x3 : Int32) (x4 : Int32) : Option (Int32) :=
  k15 x1 x2 x3 (x4 + 1)
def g_X0_tallyIn_15 (w : Nat → Int32)  : Nat → Int32 → Int32 → Int32 → Int32 → Option (Int32)
  | 0 => fun _ _ _ _ => none
  | n + 1 => fun x1 x2 x3 x4 => (if 4 ≤ x4 then some (x3) else (g_X0_stateOf w x1 x4).bind fun o25 => (if o25 = x2 then g_X0_tallyIn_35 w (g_X0_tallyIn_15 w n) x1 x2 (x3 + 1) x4 else g_X0_tallyIn_35 w (g_X0_tallyIn_15 w n) x1 x2 x3 x4))
def g_X0_tallyIn (w : Nat → Int32) (n1 : Int32) (n2 : Int32) : Option (Int32) :=
  (g_X0_isWhole w n1).bind fun o2 => (if o2 = 0 then some (0) else g_X0_tallyIn_15 w 12 n1 n2 0 0)
set_option maxHeartbeats 4000000 in
set_option maxRecDepth 100000 in
theorem c_X0_tallyIn (Z : GZ) (l : Launch) (h : Nat) (hw : Nat) (he : Nat) (w : Nat → Int32) (er : Nat → Int32) (fl : Nat → Int32) (n1 : Int32) (n2 : Int32) (o : (Int32)) (hg : g_X0_tallyIn w n1 n2 = some o) : Con Z l yX0_tallyIn cX0_tallyIn 5 (some .int) rm_X0_tallyIn [.ref h, .int n1, .int n2] (wF Z h hw he w er fl) (some (.int o)) (wF Z h hw he w er fl) := by
  refine Con.of (by decide) (Nat.le_of_ble_eq_true rfl) ?_
  intro X hE0
  have hE : ∀ z, z = o → endsX X Z (some .int) (some (.int z)) (wF Z h hw he w er fl) := by
    rintro _ rfl; exact hE0
  have J35 : ∀ (k15 : Int32 → Int32 → Int32 → Int32 → Option (Int32)) (hk15 : ∀ (x1 : Int32) (x2 : Int32) (x3 : Int32) (x4 : Int32), k15 x1 x2 x3 x4 = some o → AtK X Z rm_X0_tallyIn cX0_tallyIn RX0 5 0 0 (wF Z h hw he w er fl) 15 [(0, .ref h), (1, .int x1), (2, .int x2), (3, .int x3), (4, .int x4)] []), ∀ (x1 : Int32) (x2 : Int32) (x3 : Int32) (x4 : Int32), g_X0_tallyIn_35 w k15 x1 x2 x3 x4 = some o → AtK X Z rm_X0_tallyIn cX0_tallyIn RX0 5 0 0 (wF Z h hw he w er fl) 35 [(0, .ref h), (1, .int x1), (2, .int x2), (3, .int x3), (4, .int x4)] [] := by
    intro k15 hk15 x1 x2 x3 x4 hg
    unfold g_X0_tallyIn_35 at hg
    refine r_iinc (v := (x4 + 1)) (lv' := [(4, .int (x4 + 1)), (0, .ref h), (1, .int x1), (2, .int x2), (3, .int x3)]) dX0_tallyIn_35 (k := 4) rfl rfl (by decide) rfl ?_
    refine r_goto (tgt := 15) dX0_tallyIn_38 (by decide) ?_
    exact r_sub [1, 2, 3, 4, 0] rfl (hk15 x1 x2 x3 (x4 + 1) hg)
  have J15 : ∀ (n : Nat), ∀ (x1 : Int32) (x2 : Int32) (x3 : Int32) (x4 : Int32), g_X0_tallyIn_15 w n x1 x2 x3 x4 = some o → AtK X Z rm_X0_tallyIn cX0_tallyIn RX0 5 0 0 (wF Z h hw he w er fl) 15 [(0, .ref h), (1, .int x1), (2, .int x2), (3, .int x3), (4, .int x4)] [] := by
    intro  n
    induction n with
    | zero => intro x1 x2 x3 x4 hg; exact nomatch (show (none : Option _) = some o from hg)
    | succ n ih =>
      intro x1 x2 x3 x4 hg
      unfold g_X0_tallyIn_15 at hg
      refine r_iload dX0_tallyIn_15 4 rfl ?_
      refine r_iconst (v := 4) dX0_tallyIn_17 kic_4 ?_
      refine r_icmp_ge (tgt := 41) dX0_tallyIn_18 (by decide) (fun h18 => ?_) (fun h18 => ?_)
      · replace hg := (if_pos h18).symm.trans hg
        refine r_iload_n dX0_tallyIn_41 3 rfl ?_
        exact r_iret (hE _ (Option.some.inj hg)) dX0_tallyIn_42
      · replace hg := (if_neg h18).symm.trans hg
        refine r_aload_n dX0_tallyIn_21 0 rfl ?_
        refine r_iload_n dX0_tallyIn_22 1 rfl ?_
        refine r_iload dX0_tallyIn_23 4 rfl ?_
        obtain ⟨o25, e25, hg⟩ := ob hg
        refine r_callV (As := [.int x1, .int x4]) (rest := []) (ws' := wF Z h hw he w er fl) 0 rfl rfl rfl (fun l => c_X0_stateOf Z l h hw he w er fl x1 x4 o25 e25) qw_404 mv_X0_stateOf (xPk.all rfl) ⟨Nat.le_of_ble_eq_true rfl, Nat.le_of_ble_eq_true rfl⟩ ⟨rfl, rfl⟩ ⟨Nat.zero_le _, Nat.zero_le _⟩ rfl (Nat.le_of_ble_eq_true rfl) rfl dX0_tallyIn_25 ?_
        refine r_iload_n dX0_tallyIn_28 2 rfl ?_
        refine r_icmp_ne (tgt := 35) dX0_tallyIn_29 (by decide) (fun h29 => ?_) (fun h29 => ?_)
        · replace hg := (if_neg h29).symm.trans hg
          exact r_sub [0, 1, 2, 3, 4] rfl (J35 (g_X0_tallyIn_15 w n) ih x1 x2 x3 x4 hg)
        · replace hg := (if_pos h29).symm.trans hg
          refine r_iinc (v := (x3 + 1)) (lv' := [(3, .int (x3 + 1)), (0, .ref h), (1, .int x1), (2, .int x2), (4, .int x4)]) dX0_tallyIn_32 (k := 3) rfl rfl (by decide) rfl ?_
          exact r_sub [1, 2, 3, 0, 4] rfl (J35 (g_X0_tallyIn_15 w n) ih x1 x2 (x3 + 1) x4 hg)
  unfold g_X0_tallyIn at hg
  show AtK X Z rm_X0_tallyIn cX0_tallyIn RX0 5 0 0 (wF Z h hw he w er fl) 0 [(0, .ref h), (1, .int n1), (2, .int n2)] []
  refine r_aload_n dX0_tallyIn_0 0 rfl ?_
  refine r_iload_n dX0_tallyIn_1 1 rfl ?_
  obtain ⟨o2, e2, hg⟩ := ob hg
  refine r_callV (As := [.int n1]) (rest := []) (ws' := wF Z h hw he w er fl) 0 rfl rfl rfl (fun l => c_X0_isWhole Z l h hw he w er fl n1 o2 e2) qw_399 mv_X0_isWhole (xPk.all rfl) ⟨Nat.le_of_ble_eq_true rfl, Nat.le_of_ble_eq_true rfl⟩ ⟨rfl, rfl⟩ ⟨Nat.zero_le _, Nat.zero_le _⟩ rfl (Nat.le_of_ble_eq_true rfl) rfl dX0_tallyIn_2 ?_
  refine r_if_ne (tgt := 10) dX0_tallyIn_5 (by decide) (fun h5 => ?_) (fun h5 => ?_)
  · replace hg := (if_neg h5).symm.trans hg
    refine r_iconst (v := 0) dX0_tallyIn_10 kic_0 ?_
    refine r_istore_n (lv' := [(3, .int 0), (0, .ref h), (1, .int n1), (2, .int n2)]) dX0_tallyIn_11 (by decide) rfl ?_
    refine r_iconst (v := 0) dX0_tallyIn_12 kic_0 ?_
    refine r_istore (lv' := [(4, .int 0), (3, .int 0), (0, .ref h), (1, .int n1), (2, .int n2)]) dX0_tallyIn_13 (by decide) rfl ?_
    exact r_sub [2, 3, 4, 1, 0] rfl (J15 12 n1 n2 0 0 hg)
  · replace hg := (if_pos h5).symm.trans hg
    refine r_iconst (v := 0) dX0_tallyIn_8 kic_0 ?_
    exact r_iret (hE _ (Option.some.inj hg)) dX0_tallyIn_9

-- TicketJournal$Flash.tally(I)I
abbrev rm_X0_tally : Room := { frames := 5, cells := 0, slots := 0, locals := 116 }
def g_X0_tally_4 (w : Nat → Int32)  : Nat → Int32 → Int32 → Int32 → Option (Int32)
  | 0 => fun _ _ _ => none
  | n + 1 => fun x1 x2 x3 => (if 5 ≤ x3 then some (x2) else (g_X0_tallyIn w x3 x1).bind fun o13 => (g_X0_tally_4 w n) x1 (x2 + o13) (x3 + 1))
def g_X0_tally (w : Nat → Int32) (n1 : Int32) : Option (Int32) :=
  g_X0_tally_4 w 12 n1 0 0
set_option maxHeartbeats 4000000 in
set_option maxRecDepth 100000 in
theorem c_X0_tally (Z : GZ) (l : Launch) (h : Nat) (hw : Nat) (he : Nat) (w : Nat → Int32) (er : Nat → Int32) (fl : Nat → Int32) (n1 : Int32) (o : (Int32)) (hg : g_X0_tally w n1 = some o) : Con Z l yX0_tally cX0_tally 4 (some .int) rm_X0_tally [.ref h, .int n1] (wF Z h hw he w er fl) (some (.int o)) (wF Z h hw he w er fl) := by
  refine Con.of (by decide) (Nat.le_of_ble_eq_true rfl) ?_
  intro X hE0
  have hE : ∀ z, z = o → endsX X Z (some .int) (some (.int z)) (wF Z h hw he w er fl) := by
    rintro _ rfl; exact hE0
  have J4 : ∀ (n : Nat), ∀ (x1 : Int32) (x2 : Int32) (x3 : Int32), g_X0_tally_4 w n x1 x2 x3 = some o → AtK X Z rm_X0_tally cX0_tally RX0 4 0 0 (wF Z h hw he w er fl) 4 [(0, .ref h), (1, .int x1), (2, .int x2), (3, .int x3)] [] := by
    intro  n
    induction n with
    | zero => intro x1 x2 x3 hg; exact nomatch (show (none : Option _) = some o from hg)
    | succ n ih =>
      intro x1 x2 x3 hg
      unfold g_X0_tally_4 at hg
      refine r_iload_n dX0_tally_4 3 rfl ?_
      refine r_iconst (v := 5) dX0_tally_5 kic_5 ?_
      refine r_icmp_ge (tgt := 24) dX0_tally_6 (by decide) (fun h6 => ?_) (fun h6 => ?_)
      · replace hg := (if_pos h6).symm.trans hg
        refine r_iload_n dX0_tally_24 2 rfl ?_
        exact r_iret (hE _ (Option.some.inj hg)) dX0_tally_25
      · replace hg := (if_neg h6).symm.trans hg
        refine r_iload_n dX0_tally_9 2 rfl ?_
        refine r_aload_n dX0_tally_10 0 rfl ?_
        refine r_iload_n dX0_tally_11 3 rfl ?_
        refine r_iload_n dX0_tally_12 1 rfl ?_
        obtain ⟨o13, e13, hg⟩ := ob hg
        refine r_callV (As := [.int x3, .int x1]) (rest := [.int x2]) (ws' := wF Z h hw he w er fl) 0 rfl rfl rfl (fun l => c_X0_tallyIn Z l h hw he w er fl x3 x1 o13 e13) qw_395 mv_X0_tallyIn (xPk.all rfl) ⟨Nat.le_of_ble_eq_true rfl, Nat.le_of_ble_eq_true rfl⟩ ⟨rfl, rfl⟩ ⟨Nat.zero_le _, Nat.zero_le _⟩ rfl (Nat.le_of_ble_eq_true rfl) rfl dX0_tally_13 ?_
        refine r_iadd dX0_tally_16 ?_
        refine r_istore_n (lv' := [(2, .int (x2 + o13)), (0, .ref h), (1, .int x1), (3, .int x3)]) dX0_tally_17 (by decide) rfl ?_
        refine r_iinc (v := (x3 + 1)) (lv' := [(3, .int (x3 + 1)), (2, .int (x2 + o13)), (0, .ref h), (1, .int x1)]) dX0_tally_18 (k := 3) rfl rfl (by decide) rfl ?_
        refine r_goto (tgt := 4) dX0_tally_21 (by decide) ?_
        exact r_sub [2, 3, 1, 0] rfl (ih x1 (x2 + o13) (x3 + 1) hg)
  unfold g_X0_tally at hg
  show AtK X Z rm_X0_tally cX0_tally RX0 4 0 0 (wF Z h hw he w er fl) 0 [(0, .ref h), (1, .int n1)] []
  refine r_iconst (v := 0) dX0_tally_0 kic_0 ?_
  refine r_istore_n (lv' := [(2, .int 0), (0, .ref h), (1, .int n1)]) dX0_tally_1 (by decide) rfl ?_
  refine r_iconst (v := 0) dX0_tally_2 kic_0 ?_
  refine r_istore_n (lv' := [(3, .int 0), (2, .int 0), (0, .ref h), (1, .int n1)]) dX0_tally_3 (by decide) rfl ?_
  exact r_sub [2, 3, 1, 0] rfl (J4 12 n1 0 0 hg)

-- TicketJournal$Flash.isFollowed(I)Z
abbrev rm_X0_isFollowed : Room := { frames := 2, cells := 0, slots := 0, locals := 46 }
def g_X0_isFollowed_40 (w : Nat → Int32) (k15 : Int32 → Int32 → Option (Int32)) (x2 : Int32) (x3 : Int32) : Option (Int32) :=
  k15 x2 (x3 + 1)
def g_X0_isFollowed_15 (w : Nat → Int32)  : Nat → Int32 → Int32 → Option (Int32)
  | 0 => fun _ _ => none
  | n + 1 => fun x2 x3 => (if 5 ≤ x3 then some (0) else (g_X0_read w x3 0).bind fun o23 => (if o23 = x2 then (g_X0_isWhole w x3).bind fun o32 => (if o32 = 0 then g_X0_isFollowed_40 w (g_X0_isFollowed_15 w n) x2 x3 else some (1)) else g_X0_isFollowed_40 w (g_X0_isFollowed_15 w n) x2 x3))
def g_X0_isFollowed (w : Nat → Int32) (n1 : Int32) : Option (Int32) :=
  (g_X0_read w n1 0).bind fun o3 => g_X0_isFollowed_15 w 12 (jrem (o3 + 1) 10000) 0
set_option maxHeartbeats 4000000 in
set_option maxRecDepth 100000 in
theorem c_X0_isFollowed (Z : GZ) (l : Launch) (h : Nat) (hw : Nat) (he : Nat) (w : Nat → Int32) (er : Nat → Int32) (fl : Nat → Int32) (n1 : Int32) (o : (Int32)) (hg : g_X0_isFollowed w n1 = some o) : Con Z l yX0_isFollowed cX0_isFollowed 4 (some .boolean) rm_X0_isFollowed [.ref h, .int n1] (wF Z h hw he w er fl) (some (.int o)) (wF Z h hw he w er fl) := by
  refine Con.of (by decide) (Nat.le_of_ble_eq_true rfl) ?_
  intro X hE0
  have hE : ∀ z, z = o → endsX X Z (some .boolean) (some (.int z)) (wF Z h hw he w er fl) := by
    rintro _ rfl; exact hE0
  have J40 : ∀ (k15 : Int32 → Int32 → Option (Int32)) (hk15 : ∀ (x2 : Int32) (x3 : Int32), k15 x2 x3 = some o → AtK X Z rm_X0_isFollowed cX0_isFollowed RX0 4 0 0 (wF Z h hw he w er fl) 15 [(0, .ref h), (2, .int x2), (3, .int x3)] []), ∀ (x2 : Int32) (x3 : Int32), g_X0_isFollowed_40 w k15 x2 x3 = some o → AtK X Z rm_X0_isFollowed cX0_isFollowed RX0 4 0 0 (wF Z h hw he w er fl) 40 [(0, .ref h), (2, .int x2), (3, .int x3)] [] := by
    intro k15 hk15 x2 x3 hg
    unfold g_X0_isFollowed_40 at hg
    refine r_iinc (v := (x3 + 1)) (lv' := [(3, .int (x3 + 1)), (0, .ref h), (2, .int x2)]) dX0_isFollowed_40 (k := 2) rfl rfl (by decide) rfl ?_
    refine r_goto (tgt := 15) dX0_isFollowed_43 (by decide) ?_
    exact r_sub [1, 2, 0] rfl (hk15 x2 (x3 + 1) hg)
  have J15 : ∀ (n : Nat), ∀ (x2 : Int32) (x3 : Int32), g_X0_isFollowed_15 w n x2 x3 = some o → AtK X Z rm_X0_isFollowed cX0_isFollowed RX0 4 0 0 (wF Z h hw he w er fl) 15 [(0, .ref h), (2, .int x2), (3, .int x3)] [] := by
    intro  n
    induction n with
    | zero => intro x2 x3 hg; exact nomatch (show (none : Option _) = some o from hg)
    | succ n ih =>
      intro x2 x3 hg
      unfold g_X0_isFollowed_15 at hg
      refine r_iload_n dX0_isFollowed_15 2 rfl ?_
      refine r_iconst (v := 5) dX0_isFollowed_16 kic_5 ?_
      refine r_icmp_ge (tgt := 46) dX0_isFollowed_17 (by decide) (fun h17 => ?_) (fun h17 => ?_)
      · replace hg := (if_pos h17).symm.trans hg
        refine r_iconst (v := 0) dX0_isFollowed_46 kic_0 ?_
        exact r_bret (hE _ (Option.some.inj hg)) (by decide) dX0_isFollowed_47
      · replace hg := (if_neg h17).symm.trans hg
        refine r_aload_n dX0_isFollowed_20 0 rfl ?_
        refine r_iload_n dX0_isFollowed_21 2 rfl ?_
        refine r_iconst (v := 0) dX0_isFollowed_22 kic_0 ?_
        obtain ⟨o23, e23, hg⟩ := ob hg
        refine r_callV (As := [.int x3, .int 0]) (rest := []) (ws' := wF Z h hw he w er fl) 0 rfl rfl rfl (fun l => c_X0_read Z l h hw he w er fl x3 0 o23 e23) qw_328 mv_X0_read (xPk.all rfl) ⟨Nat.le_of_ble_eq_true rfl, Nat.le_of_ble_eq_true rfl⟩ ⟨rfl, rfl⟩ ⟨Nat.zero_le _, Nat.zero_le _⟩ rfl (Nat.le_of_ble_eq_true rfl) rfl dX0_isFollowed_23 ?_
        refine r_iload_n dX0_isFollowed_26 1 rfl ?_
        refine r_icmp_ne (tgt := 40) dX0_isFollowed_27 (by decide) (fun h27 => ?_) (fun h27 => ?_)
        · replace hg := (if_neg h27).symm.trans hg
          exact r_sub [0, 1, 2] rfl (J40 (g_X0_isFollowed_15 w n) ih x2 x3 hg)
        · replace hg := (if_pos h27).symm.trans hg
          refine r_aload_n dX0_isFollowed_30 0 rfl ?_
          refine r_iload_n dX0_isFollowed_31 2 rfl ?_
          obtain ⟨o32, e32, hg⟩ := ob hg
          refine r_callV (As := [.int x3]) (rest := []) (ws' := wF Z h hw he w er fl) 0 rfl rfl rfl (fun l => c_X0_isWhole Z l h hw he w er fl x3 o32 e32) qw_399 mv_X0_isWhole (xPk.all rfl) ⟨Nat.le_of_ble_eq_true rfl, Nat.le_of_ble_eq_true rfl⟩ ⟨rfl, rfl⟩ ⟨Nat.zero_le _, Nat.zero_le _⟩ rfl (Nat.le_of_ble_eq_true rfl) rfl dX0_isFollowed_32 ?_
          refine r_if_eq (tgt := 40) dX0_isFollowed_35 (by decide) (fun h35 => ?_) (fun h35 => ?_)
          · replace hg := (if_pos h35).symm.trans hg
            exact r_sub [0, 1, 2] rfl (J40 (g_X0_isFollowed_15 w n) ih x2 x3 hg)
          · replace hg := (if_neg h35).symm.trans hg
            refine r_iconst (v := 1) dX0_isFollowed_38 kic_1 ?_
            exact r_bret (hE _ (Option.some.inj hg)) (by decide) dX0_isFollowed_39
  unfold g_X0_isFollowed at hg
  show AtK X Z rm_X0_isFollowed cX0_isFollowed RX0 4 0 0 (wF Z h hw he w er fl) 0 [(0, .ref h), (1, .int n1)] []
  refine r_aload_n dX0_isFollowed_0 0 rfl ?_
  refine r_iload_n dX0_isFollowed_1 1 rfl ?_
  refine r_iconst (v := 0) dX0_isFollowed_2 kic_0 ?_
  obtain ⟨o3, e3, hg⟩ := ob hg
  refine r_callV (As := [.int n1, .int 0]) (rest := []) (ws' := wF Z h hw he w er fl) 0 rfl rfl rfl (fun l => c_X0_read Z l h hw he w er fl n1 0 o3 e3) qw_328 mv_X0_read (xPk.all rfl) ⟨Nat.le_of_ble_eq_true rfl, Nat.le_of_ble_eq_true rfl⟩ ⟨rfl, rfl⟩ ⟨Nat.zero_le _, Nat.zero_le _⟩ rfl (Nat.le_of_ble_eq_true rfl) rfl dX0_isFollowed_3 ?_
  refine r_iconst (v := 1) dX0_isFollowed_6 kic_1 ?_
  refine r_iadd dX0_isFollowed_7 ?_
  refine r_sipush (v := 10000) dX0_isFollowed_8 ksp_10000 ?_
  refine r_irem dX0_isFollowed_11 (by decide) ?_
  refine r_istore_n (lv' := [(2, .int (jrem (o3 + 1) 10000)), (0, .ref h), (1, .int n1)]) dX0_isFollowed_12 (by decide) rfl ?_
  refine r_iconst (v := 0) dX0_isFollowed_13 kic_0 ?_
  refine r_istore_n (lv' := [(3, .int 0), (2, .int (jrem (o3 + 1) 10000)), (0, .ref h), (1, .int n1)]) dX0_isFollowed_14 (by decide) rfl ?_
  exact r_sub [2, 1, 0] rfl (J15 12 (jrem (o3 + 1) 10000) 0 hg)

-- TicketJournal$Flash.newestBlock()I
abbrev rm_X0_newestBlock : Room := { frames := 3, cells := 0, slots := 0, locals := 69 }
def g_X0_newestBlock_25 (w : Nat → Int32) (k2 : Int32 → Option (Int32)) (x1 : Int32) : Option (Int32) :=
  k2 (x1 + 1)
def g_X0_newestBlock_2 (w : Nat → Int32)  : Nat → Int32 → Option (Int32)
  | 0 => fun _ => none
  | n + 1 => fun x1 => (if 5 ≤ x1 then some (0) else (g_X0_isWhole w x1).bind fun o9 => (if o9 = 0 then g_X0_newestBlock_25 w (g_X0_newestBlock_2 w n) x1 else (g_X0_isFollowed w x1).bind fun o17 => (if o17 = 0 then some (x1) else g_X0_newestBlock_25 w (g_X0_newestBlock_2 w n) x1)))
def g_X0_newestBlock (w : Nat → Int32)  : Option (Int32) :=
  g_X0_newestBlock_2 w 12 0
set_option maxHeartbeats 4000000 in
set_option maxRecDepth 100000 in
theorem c_X0_newestBlock (Z : GZ) (l : Launch) (h : Nat) (hw : Nat) (he : Nat) (w : Nat → Int32) (er : Nat → Int32) (fl : Nat → Int32)  (o : (Int32)) (hg : g_X0_newestBlock w = some o) : Con Z l yX0_newestBlock cX0_newestBlock 2 (some .int) rm_X0_newestBlock [.ref h] (wF Z h hw he w er fl) (some (.int o)) (wF Z h hw he w er fl) := by
  refine Con.of (by decide) (Nat.le_of_ble_eq_true rfl) ?_
  intro X hE0
  have hE : ∀ z, z = o → endsX X Z (some .int) (some (.int z)) (wF Z h hw he w er fl) := by
    rintro _ rfl; exact hE0
  have J25 : ∀ (k2 : Int32 → Option (Int32)) (hk2 : ∀ (x1 : Int32), k2 x1 = some o → AtK X Z rm_X0_newestBlock cX0_newestBlock RX0 2 0 0 (wF Z h hw he w er fl) 2 [(0, .ref h), (1, .int x1)] []), ∀ (x1 : Int32), g_X0_newestBlock_25 w k2 x1 = some o → AtK X Z rm_X0_newestBlock cX0_newestBlock RX0 2 0 0 (wF Z h hw he w er fl) 25 [(0, .ref h), (1, .int x1)] [] := by
    intro k2 hk2 x1 hg
    unfold g_X0_newestBlock_25 at hg
    refine r_iinc (v := (x1 + 1)) (lv' := [(1, .int (x1 + 1)), (0, .ref h)]) dX0_newestBlock_25 (k := 1) rfl rfl (by decide) rfl ?_
    refine r_goto (tgt := 2) dX0_newestBlock_28 (by decide) ?_
    exact r_sub [1, 0] rfl (hk2 (x1 + 1) hg)
  have J2 : ∀ (n : Nat), ∀ (x1 : Int32), g_X0_newestBlock_2 w n x1 = some o → AtK X Z rm_X0_newestBlock cX0_newestBlock RX0 2 0 0 (wF Z h hw he w er fl) 2 [(0, .ref h), (1, .int x1)] [] := by
    intro  n
    induction n with
    | zero => intro x1 hg; exact nomatch (show (none : Option _) = some o from hg)
    | succ n ih =>
      intro x1 hg
      unfold g_X0_newestBlock_2 at hg
      refine r_iload_n dX0_newestBlock_2 1 rfl ?_
      refine r_iconst (v := 5) dX0_newestBlock_3 kic_5 ?_
      refine r_icmp_ge (tgt := 31) dX0_newestBlock_4 (by decide) (fun h4 => ?_) (fun h4 => ?_)
      · replace hg := (if_pos h4).symm.trans hg
        refine r_iconst (v := 0) dX0_newestBlock_31 kic_0 ?_
        exact r_iret (hE _ (Option.some.inj hg)) dX0_newestBlock_32
      · replace hg := (if_neg h4).symm.trans hg
        refine r_aload_n dX0_newestBlock_7 0 rfl ?_
        refine r_iload_n dX0_newestBlock_8 1 rfl ?_
        obtain ⟨o9, e9, hg⟩ := ob hg
        refine r_callV (As := [.int x1]) (rest := []) (ws' := wF Z h hw he w er fl) 0 rfl rfl rfl (fun l => c_X0_isWhole Z l h hw he w er fl x1 o9 e9) qw_399 mv_X0_isWhole (xPk.all rfl) ⟨Nat.le_of_ble_eq_true rfl, Nat.le_of_ble_eq_true rfl⟩ ⟨rfl, rfl⟩ ⟨Nat.zero_le _, Nat.zero_le _⟩ rfl (Nat.le_of_ble_eq_true rfl) rfl dX0_newestBlock_9 ?_
        refine r_if_eq (tgt := 25) dX0_newestBlock_12 (by decide) (fun h12 => ?_) (fun h12 => ?_)
        · replace hg := (if_pos h12).symm.trans hg
          exact r_sub [0, 1] rfl (J25 (g_X0_newestBlock_2 w n) ih x1 hg)
        · replace hg := (if_neg h12).symm.trans hg
          refine r_aload_n dX0_newestBlock_15 0 rfl ?_
          refine r_iload_n dX0_newestBlock_16 1 rfl ?_
          obtain ⟨o17, e17, hg⟩ := ob hg
          refine r_callV (As := [.int x1]) (rest := []) (ws' := wF Z h hw he w er fl) 0 rfl rfl rfl (fun l => c_X0_isFollowed Z l h hw he w er fl x1 o17 e17) qw_421 mv_X0_isFollowed (xPk.all rfl) ⟨Nat.le_of_ble_eq_true rfl, Nat.le_of_ble_eq_true rfl⟩ ⟨rfl, rfl⟩ ⟨Nat.zero_le _, Nat.zero_le _⟩ rfl (Nat.le_of_ble_eq_true rfl) rfl dX0_newestBlock_17 ?_
          refine r_if_ne (tgt := 25) dX0_newestBlock_20 (by decide) (fun h20 => ?_) (fun h20 => ?_)
          · replace hg := (if_neg h20).symm.trans hg
            exact r_sub [0, 1] rfl (J25 (g_X0_newestBlock_2 w n) ih x1 hg)
          · replace hg := (if_pos h20).symm.trans hg
            refine r_iload_n dX0_newestBlock_23 1 rfl ?_
            exact r_iret (hE _ (Option.some.inj hg)) dX0_newestBlock_24
  unfold g_X0_newestBlock at hg
  show AtK X Z rm_X0_newestBlock cX0_newestBlock RX0 2 0 0 (wF Z h hw he w er fl) 0 [(0, .ref h)] []
  refine r_iconst (v := 0) dX0_newestBlock_0 kic_0 ?_
  refine r_istore_n (lv' := [(1, .int 0), (0, .ref h)]) dX0_newestBlock_1 (by decide) rfl ?_
  exact r_sub [1, 0] rfl (J2 12 0 hg)

-- TicketJournal$Flash.nextPlaceIn(I)I
abbrev rm_X0_nextPlaceIn : Room := { frames := 3, cells := 0, slots := 0, locals := 69 }
def g_X0_nextPlaceIn_23 (w : Nat → Int32)  (x2 : Int32) : Option (Int32) :=
  some (x2)
def g_X0_nextPlaceIn_2 (w : Nat → Int32)  : Nat → Int32 → Int32 → Option (Int32)
  | 0 => fun _ _ => none
  | n + 1 => fun x1 x2 => (if x2 ≤ 0 then g_X0_nextPlaceIn_23 w x2 else (g_X0_isEmpty w x1 (x2 - 1)).bind fun o11 => (if o11 = 0 then g_X0_nextPlaceIn_23 w x2 else (g_X0_nextPlaceIn_2 w n) x1 (x2 + (-1))))
def g_X0_nextPlaceIn (w : Nat → Int32) (n1 : Int32) : Option (Int32) :=
  g_X0_nextPlaceIn_2 w 12 n1 4
set_option maxHeartbeats 4000000 in
set_option maxRecDepth 100000 in
theorem c_X0_nextPlaceIn (Z : GZ) (l : Launch) (h : Nat) (hw : Nat) (he : Nat) (w : Nat → Int32) (er : Nat → Int32) (fl : Nat → Int32) (n1 : Int32) (o : (Int32)) (hg : g_X0_nextPlaceIn w n1 = some o) : Con Z l yX0_nextPlaceIn cX0_nextPlaceIn 3 (some .int) rm_X0_nextPlaceIn [.ref h, .int n1] (wF Z h hw he w er fl) (some (.int o)) (wF Z h hw he w er fl) := by
  refine Con.of (by decide) (Nat.le_of_ble_eq_true rfl) ?_
  intro X hE0
  have hE : ∀ z, z = o → endsX X Z (some .int) (some (.int z)) (wF Z h hw he w er fl) := by
    rintro _ rfl; exact hE0
  have J23 : ∀ (x2 : Int32), g_X0_nextPlaceIn_23 w x2 = some o → AtK X Z rm_X0_nextPlaceIn cX0_nextPlaceIn RX0 3 0 0 (wF Z h hw he w er fl) 23 [(2, .int x2)] [] := by
    intro x2 hg
    unfold g_X0_nextPlaceIn_23 at hg
    refine r_iload_n dX0_nextPlaceIn_23 0 rfl ?_
    exact r_iret (hE _ (Option.some.inj hg)) dX0_nextPlaceIn_24
  have J2 : ∀ (n : Nat), ∀ (x1 : Int32) (x2 : Int32), g_X0_nextPlaceIn_2 w n x1 x2 = some o → AtK X Z rm_X0_nextPlaceIn cX0_nextPlaceIn RX0 3 0 0 (wF Z h hw he w er fl) 2 [(0, .ref h), (1, .int x1), (2, .int x2)] [] := by
    intro  n
    induction n with
    | zero => intro x1 x2 hg; exact nomatch (show (none : Option _) = some o from hg)
    | succ n ih =>
      intro x1 x2 hg
      unfold g_X0_nextPlaceIn_2 at hg
      refine r_iload_n dX0_nextPlaceIn_2 2 rfl ?_
      refine r_if_le (tgt := 23) dX0_nextPlaceIn_3 (by decide) (fun h3 => ?_) (fun h3 => ?_)
      · replace hg := (if_pos h3).symm.trans hg
        exact r_sub [2] rfl (J23 x2 hg)
      · replace hg := (if_neg h3).symm.trans hg
        refine r_aload_n dX0_nextPlaceIn_6 0 rfl ?_
        refine r_iload_n dX0_nextPlaceIn_7 1 rfl ?_
        refine r_iload_n dX0_nextPlaceIn_8 2 rfl ?_
        refine r_iconst (v := 1) dX0_nextPlaceIn_9 kic_1 ?_
        refine r_isub dX0_nextPlaceIn_10 ?_
        obtain ⟨o11, e11, hg⟩ := ob hg
        refine r_callV (As := [.int x1, .int (x2 - 1)]) (rest := []) (ws' := wF Z h hw he w er fl) 0 rfl rfl rfl (fun l => c_X0_isEmpty Z l h hw he w er fl x1 (x2 - 1) o11 e11) qw_320 mv_X0_isEmpty (xPk.all rfl) ⟨Nat.le_of_ble_eq_true rfl, Nat.le_of_ble_eq_true rfl⟩ ⟨rfl, rfl⟩ ⟨Nat.zero_le _, Nat.zero_le _⟩ rfl (Nat.le_of_ble_eq_true rfl) rfl dX0_nextPlaceIn_11 ?_
        refine r_if_eq (tgt := 23) dX0_nextPlaceIn_14 (by decide) (fun h14 => ?_) (fun h14 => ?_)
        · replace hg := (if_pos h14).symm.trans hg
          exact r_sub [2] rfl (J23 x2 hg)
        · replace hg := (if_neg h14).symm.trans hg
          refine r_iinc (v := (x2 + (-1))) (lv' := [(2, .int (x2 + (-1))), (0, .ref h), (1, .int x1)]) dX0_nextPlaceIn_17 (k := 2) rfl rfl (by decide) rfl ?_
          refine r_goto (tgt := 2) dX0_nextPlaceIn_20 (by decide) ?_
          exact r_sub [1, 2, 0] rfl (ih x1 (x2 + (-1)) hg)
  unfold g_X0_nextPlaceIn at hg
  show AtK X Z rm_X0_nextPlaceIn cX0_nextPlaceIn RX0 3 0 0 (wF Z h hw he w er fl) 0 [(0, .ref h), (1, .int n1)] []
  refine r_iconst (v := 4) dX0_nextPlaceIn_0 kic_4 ?_
  refine r_istore_n (lv' := [(2, .int 4), (0, .ref h), (1, .int n1)]) dX0_nextPlaceIn_1 (by decide) rfl ?_
  exact r_sub [1, 2, 0] rfl (J2 12 n1 4 hg)
end
section
-- TicketJournal$Flash.copyFrom(LTicketJournal$Flash;)V
abbrev rm_X0_copyFrom : Room := { frames := 1, cells := 0, slots := 0, locals := 40 }
def g_X0_copyFrom (w : Nat → Int32) (er : Nat → Int32) (fl : Nat → Int32) (w2 : Nat → Int32) (er2 : Nat → Int32) (fl2 : Nat → Int32)  : Option ((Nat → Int32) × (Nat → Int32) × (Nat → Int32)) :=
  some (w2, er2, (upd (upd fl 0 (fl2 0)) 1 (fl2 1)))
set_option maxHeartbeats 4000000 in
set_option maxRecDepth 100000 in
theorem c_X0_copyFrom (Z : GZ) (l : Launch) (h : Nat) (hw : Nat) (he : Nat) (h2 : Nat) (hw2 : Nat) (he2 : Nat) (w : Nat → Int32) (er : Nat → Int32) (fl : Nat → Int32) (w2 : Nat → Int32) (er2 : Nat → Int32) (fl2 : Nat → Int32)  (o : ((Nat → Int32) × (Nat → Int32) × (Nat → Int32))) (hg : g_X0_copyFrom w er fl w2 er2 fl2 = some o) : Con Z l yX0_copyFrom cX0_copyFrom 2 none rm_X0_copyFrom [.ref h, .ref h2] (wF Z h hw he w er fl ++ (wF Z h2 hw2 he2 w2 er2 fl2)) none (wF Z h hw he o.1 o.2.1 o.2.2 ++ (wF Z h2 hw2 he2 w2 er2 fl2)) := by
  refine Con.of (by decide) (Nat.le_of_ble_eq_true rfl) ?_
  intro X hE0
  have hE : ∀ z, z = o → endsX X Z none none (wF Z h hw he z.1 z.2.1 z.2.2 ++ (wF Z h2 hw2 he2 w2 er2 fl2)) := by
    rintro _ rfl; exact hE0
  unfold g_X0_copyFrom at hg
  show AtK X Z rm_X0_copyFrom cX0_copyFrom RX0 2 0 0 (wF Z h hw he w er fl ++ (wF Z h2 hw2 he2 w2 er2 fl2)) 0 [(0, .ref h), (1, .ref h2)] []
  refine r_aload_n dX0_copyFrom_0 1 rfl ?_
  refine gf_X0_0 (v := .ref hw2) 3 rfl rfl qw_43 dX0_copyFrom_1 ?_
  refine r_iconst (v := 0) dX0_copyFrom_4 kic_0 ?_
  refine r_aload_n dX0_copyFrom_5 0 rfl ?_
  refine gf_X0_0 (v := .ref hw) 0 rfl rfl qw_43 dX0_copyFrom_6 ?_
  refine r_iconst (v := 0) dX0_copyFrom_9 kic_0 ?_
  refine r_bipush (v := 110) dX0_copyFrom_10 kbp_110 ?_
  refine r_copyi 4 1 rfl rfl (by decide) (by decide) qw_248 qw_250 qw_249 qw_20 (Nat.le_of_ble_eq_true rfl) (Nat.le_of_ble_eq_true rfl) dX0_copyFrom_12 (ws' := wF Z h hw he w2 er fl ++ (wF Z h2 hw2 he2 w2 er2 fl2)) rfl ?_
  refine r_aload_n dX0_copyFrom_15 1 rfl ?_
  refine gf_X0_1 (v := .ref he2) 3 rfl rfl qw_44 dX0_copyFrom_16 ?_
  refine r_iconst (v := 0) dX0_copyFrom_19 kic_0 ?_
  refine r_aload_n dX0_copyFrom_20 0 rfl ?_
  refine gf_X0_1 (v := .ref he) 0 rfl rfl qw_44 dX0_copyFrom_21 ?_
  refine r_iconst (v := 0) dX0_copyFrom_24 kic_0 ?_
  refine r_iconst (v := 5) dX0_copyFrom_25 kic_5 ?_
  refine r_copyi 5 2 rfl rfl (by decide) (by decide) qw_248 qw_250 qw_249 qw_20 (Nat.le_of_ble_eq_true rfl) (Nat.le_of_ble_eq_true rfl) dX0_copyFrom_26 (ws' := wF Z h hw he w2 er2 fl ++ (wF Z h2 hw2 he2 w2 er2 fl2)) rfl ?_
  refine r_aload_n dX0_copyFrom_29 0 rfl ?_
  refine r_aload_n dX0_copyFrom_30 1 rfl ?_
  refine gf_X0_2 (v := .int (fl2 0)) 3 rfl rfl qw_45 dX0_copyFrom_31 ?_
  refine pf_X0_2 0 rfl (Nat.le_of_ble_eq_true rfl) qw_45 dX0_copyFrom_34 (ws' := wF Z h hw he w2 er2 (upd fl 0 (fl2 0)) ++ (wF Z h2 hw2 he2 w2 er2 fl2)) rfl ?_
  refine r_aload_n dX0_copyFrom_37 0 rfl ?_
  refine r_aload_n dX0_copyFrom_38 1 rfl ?_
  refine gf_X0_3 (v := .int (fl2 1)) 3 rfl rfl qw_47 dX0_copyFrom_39 ?_
  refine pf_X0_3 0 rfl (Nat.le_of_ble_eq_true rfl) qw_47 dX0_copyFrom_42 (ws' := wF Z h hw he w2 er2 (upd (upd fl 0 (fl2 0)) 1 (fl2 1)) ++ (wF Z h2 hw2 he2 w2 er2 fl2)) rfl ?_
  exact r_vret (hE _ (Option.some.inj hg)) dX0_copyFrom_45

-- TicketJournal$Memory.copyFrom(LTicketJournal$Memory;)V
abbrev rm_X3_copyFrom : Room := { frames := 0, cells := 0, slots := 0, locals := 0 }
def g_X3_copyFrom (me : Nat → Int32) (me2 : Nat → Int32)  : Option ((Nat → Int32)) :=
  some ((upd (upd (upd (upd (upd (upd me 0 (me2 0)) 1 (me2 1)) 2 (me2 2)) 3 (me2 3)) 4 (me2 4)) 5 (me2 5)))
set_option maxHeartbeats 4000000 in
set_option maxRecDepth 100000 in
theorem c_X3_copyFrom (Z : GZ) (l : Launch) (hm : Nat) (hm2 : Nat) (me : Nat → Int32) (me2 : Nat → Int32)  (o : ((Nat → Int32))) (hg : g_X3_copyFrom me me2 = some o) : Con Z l yX3_copyFrom cX3_copyFrom 2 none rm_X3_copyFrom [.ref hm, .ref hm2] (wM Z hm me ++ (wM Z hm2 me2)) none (wM Z hm o ++ (wM Z hm2 me2)) := by
  refine Con.of (by decide) (Nat.le_of_ble_eq_true rfl) ?_
  intro X hE0
  have hE : ∀ z, z = o → endsX X Z none none (wM Z hm z ++ (wM Z hm2 me2)) := by
    rintro _ rfl; exact hE0
  unfold g_X3_copyFrom at hg
  show AtK X Z rm_X3_copyFrom cX3_copyFrom RX3 2 0 0 (wM Z hm me ++ (wM Z hm2 me2)) 0 [(0, .ref hm), (1, .ref hm2)] []
  refine r_aload_n dX3_copyFrom_0 0 rfl ?_
  refine r_aload_n dX3_copyFrom_1 1 rfl ?_
  refine gf_X3_0 (v := .int (me2 0)) 1 rfl rfl qw_65 dX3_copyFrom_2 ?_
  refine pf_X3_0 0 rfl (Nat.le_of_ble_eq_true rfl) qw_65 dX3_copyFrom_5 (ws' := wM Z hm (upd me 0 (me2 0)) ++ (wM Z hm2 me2)) rfl ?_
  refine r_aload_n dX3_copyFrom_8 0 rfl ?_
  refine r_aload_n dX3_copyFrom_9 1 rfl ?_
  refine gf_X3_1 (v := .int (me2 1)) 1 rfl rfl qw_68 dX3_copyFrom_10 ?_
  refine pf_X3_1 0 rfl (Nat.le_of_ble_eq_true rfl) qw_68 dX3_copyFrom_13 (ws' := wM Z hm (upd (upd me 0 (me2 0)) 1 (me2 1)) ++ (wM Z hm2 me2)) rfl ?_
  refine r_aload_n dX3_copyFrom_16 0 rfl ?_
  refine r_aload_n dX3_copyFrom_17 1 rfl ?_
  refine gf_X3_2 (v := .int (me2 2)) 1 rfl rfl qw_71 dX3_copyFrom_18 ?_
  refine pf_X3_2 0 rfl (Nat.le_of_ble_eq_true rfl) qw_71 dX3_copyFrom_21 (ws' := wM Z hm (upd (upd (upd me 0 (me2 0)) 1 (me2 1)) 2 (me2 2)) ++ (wM Z hm2 me2)) rfl ?_
  refine r_aload_n dX3_copyFrom_24 0 rfl ?_
  refine r_aload_n dX3_copyFrom_25 1 rfl ?_
  refine gf_X3_3 (v := .int (me2 3)) 1 rfl rfl qw_74 dX3_copyFrom_26 ?_
  refine pf_X3_3 0 rfl (Nat.le_of_ble_eq_true rfl) qw_74 dX3_copyFrom_29 (ws' := wM Z hm (upd (upd (upd (upd me 0 (me2 0)) 1 (me2 1)) 2 (me2 2)) 3 (me2 3)) ++ (wM Z hm2 me2)) rfl ?_
  refine r_aload_n dX3_copyFrom_32 0 rfl ?_
  refine r_aload_n dX3_copyFrom_33 1 rfl ?_
  refine gf_X3_4 (v := .int (me2 4)) 1 rfl rfl qw_77 dX3_copyFrom_34 ?_
  refine pf_X3_4 0 rfl (Nat.le_of_ble_eq_true rfl) qw_77 dX3_copyFrom_37 (ws' := wM Z hm (upd (upd (upd (upd (upd me 0 (me2 0)) 1 (me2 1)) 2 (me2 2)) 3 (me2 3)) 4 (me2 4)) ++ (wM Z hm2 me2)) rfl ?_
  refine r_aload_n dX3_copyFrom_40 0 rfl ?_
  refine r_aload_n dX3_copyFrom_41 1 rfl ?_
  refine gf_X3_5 (v := .int (me2 5)) 1 rfl rfl qw_80 dX3_copyFrom_42 ?_
  refine pf_X3_5 0 rfl (Nat.le_of_ble_eq_true rfl) qw_80 dX3_copyFrom_45 (ws' := wM Z hm (upd (upd (upd (upd (upd (upd me 0 (me2 0)) 1 (me2 1)) 2 (me2 2)) 3 (me2 3)) 4 (me2 4)) 5 (me2 5)) ++ (wM Z hm2 me2)) rfl ?_
  exact r_vret (hE _ (Option.some.inj hg)) dX3_copyFrom_48

-- TicketJournal$Memory.forget()V
abbrev rm_X3_forget : Room := { frames := 0, cells := 0, slots := 0, locals := 0 }
def g_X3_forget (me : Nat → Int32)  : Option ((Nat → Int32)) :=
  some ((upd (upd (upd (upd (upd (upd me 0 0) 1 0) 2 0) 3 0) 4 0) 5 0))
set_option maxHeartbeats 4000000 in
set_option maxRecDepth 100000 in
theorem c_X3_forget (Z : GZ) (l : Launch) (hm : Nat) (me : Nat → Int32)  (o : ((Nat → Int32))) (hg : g_X3_forget me = some o) : Con Z l yX3_forget cX3_forget 1 none rm_X3_forget [.ref hm] (wM Z hm me) none (wM Z hm o) := by
  refine Con.of (by decide) (Nat.le_of_ble_eq_true rfl) ?_
  intro X hE0
  have hE : ∀ z, z = o → endsX X Z none none (wM Z hm z) := by
    rintro _ rfl; exact hE0
  unfold g_X3_forget at hg
  show AtK X Z rm_X3_forget cX3_forget RX3 1 0 0 (wM Z hm me) 0 [(0, .ref hm)] []
  refine r_aload_n dX3_forget_0 0 rfl ?_
  refine r_iconst (v := 0) dX3_forget_1 kic_0 ?_
  refine pf_X3_0 0 rfl (Nat.le_of_ble_eq_true rfl) qw_65 dX3_forget_2 (ws' := wM Z hm (upd me 0 0)) rfl ?_
  refine r_aload_n dX3_forget_5 0 rfl ?_
  refine r_iconst (v := 0) dX3_forget_6 kic_0 ?_
  refine pf_X3_1 0 rfl (Nat.le_of_ble_eq_true rfl) qw_68 dX3_forget_7 (ws' := wM Z hm (upd (upd me 0 0) 1 0)) rfl ?_
  refine r_aload_n dX3_forget_10 0 rfl ?_
  refine r_iconst (v := 0) dX3_forget_11 kic_0 ?_
  refine pf_X3_2 0 rfl (Nat.le_of_ble_eq_true rfl) qw_71 dX3_forget_12 (ws' := wM Z hm (upd (upd (upd me 0 0) 1 0) 2 0)) rfl ?_
  refine r_aload_n dX3_forget_15 0 rfl ?_
  refine r_iconst (v := 0) dX3_forget_16 kic_0 ?_
  refine pf_X3_3 0 rfl (Nat.le_of_ble_eq_true rfl) qw_74 dX3_forget_17 (ws' := wM Z hm (upd (upd (upd (upd me 0 0) 1 0) 2 0) 3 0)) rfl ?_
  refine r_aload_n dX3_forget_20 0 rfl ?_
  refine r_iconst (v := 0) dX3_forget_21 kic_0 ?_
  refine pf_X3_4 0 rfl (Nat.le_of_ble_eq_true rfl) qw_77 dX3_forget_22 (ws' := wM Z hm (upd (upd (upd (upd (upd me 0 0) 1 0) 2 0) 3 0) 4 0)) rfl ?_
  refine r_aload_n dX3_forget_25 0 rfl ?_
  refine r_iconst (v := 0) dX3_forget_26 kic_0 ?_
  refine pf_X3_5 0 rfl (Nat.le_of_ble_eq_true rfl) qw_80 dX3_forget_27 (ws' := wM Z hm (upd (upd (upd (upd (upd (upd me 0 0) 1 0) 2 0) 3 0) 4 0) 5 0)) rfl ?_
  exact r_vret (hE _ (Option.some.inj hg)) dX3_forget_30

-- TicketJournal$Memory.learn(II)V
abbrev rm_X3_learn : Room := { frames := 1, cells := 0, slots := 0, locals := 20 }
def g_X3_learn (me : Nat → Int32) (n1 : Int32) (n2 : Int32) : Option ((Nat → Int32)) :=
  (if (n1 / 10000) = 0 then (g_X6_lengthOf (n2 / 1000)).bind fun o90 => some ((upd (upd (upd (upd me 2 (jrem ((jrem n1 10000) + 1) 10000)) 3 ((me 3) + (jrem n2 1000))) 4 ((me 4) + 1)) 5 ((me 5) - o90))) else (if (n1 / 10000) = 1 then some ((upd (upd (upd me 2 (jrem ((jrem n1 10000) + 1) 10000)) 3 ((me 3) - (jrem n2 1000))) 4 ((me 4) - 1))) else (if (n1 / 10000) = 3 then some ((upd (upd (upd me 2 (jrem ((jrem n1 10000) + 1) 10000)) 3 0) 4 0)) else (if (n1 / 10000) = 4 then some ((upd (upd me 2 (jrem ((jrem n1 10000) + 1) 10000)) 5 n2)) else some ((upd me 2 (jrem ((jrem n1 10000) + 1) 10000)))))))
set_option maxHeartbeats 4000000 in
set_option maxRecDepth 100000 in
theorem c_X3_learn (Z : GZ) (l : Launch) (hm : Nat) (me : Nat → Int32) (n1 : Int32) (n2 : Int32) (o : ((Nat → Int32))) (hg : g_X3_learn me n1 n2 = some o) : Con Z l yX3_learn cX3_learn 4 none rm_X3_learn [.ref hm, .int n1, .int n2] (wM Z hm me) none (wM Z hm o) := by
  refine Con.of (by decide) (Nat.le_of_ble_eq_true rfl) ?_
  intro X hE0
  have hE : ∀ z, z = o → endsX X Z none none (wM Z hm z) := by
    rintro _ rfl; exact hE0
  unfold g_X3_learn at hg
  show AtK X Z rm_X3_learn cX3_learn RX3 4 0 0 (wM Z hm me) 0 [(0, .ref hm), (1, .int n1), (2, .int n2)] []
  refine r_aload_n dX3_learn_0 0 rfl ?_
  refine r_iload_n dX3_learn_1 1 rfl ?_
  refine r_sipush (v := 10000) dX3_learn_2 ksp_10000 ?_
  refine r_irem dX3_learn_5 (by decide) ?_
  refine r_iconst (v := 1) dX3_learn_6 kic_1 ?_
  refine r_iadd dX3_learn_7 ?_
  refine r_sipush (v := 10000) dX3_learn_8 ksp_10000 ?_
  refine r_irem dX3_learn_11 (by decide) ?_
  refine pf_X3_2 0 rfl (Nat.le_of_ble_eq_true rfl) qw_71 dX3_learn_12 (ws' := wM Z hm (upd me 2 (jrem ((jrem n1 10000) + 1) 10000))) rfl ?_
  refine r_iload_n dX3_learn_15 2 rfl ?_
  refine r_sipush (v := 1000) dX3_learn_16 ksp_1000 ?_
  refine r_irem dX3_learn_19 (by decide) ?_
  refine r_istore_n (lv' := [(3, .int (jrem n2 1000)), (0, .ref hm), (1, .int n1), (2, .int n2)]) dX3_learn_20 (by decide) rfl ?_
  refine r_iload_n dX3_learn_21 2 rfl ?_
  refine r_sipush (v := 10000) dX3_learn_22 ksp_10000 ?_
  refine r_idiv dX3_learn_25 (by decide) ?_
  by_cases h26_0 : (n1 / 10000) = 0
  · replace hg := (if_pos h26_0).symm.trans hg
    refine r_tableIn (tgt := 60) (off := 34) dX3_learn_26 (by rw [h26_0]; decide) (by rw [h26_0]; decide) (by rw [h26_0]; decide) (by decide) ?_
    refine r_aload_n dX3_learn_60 1 rfl ?_
    refine r_dup dX3_learn_61 rfl ?_
    refine gf_X3_3 (v := .int (me 3)) 0 rfl rfl qw_74 dX3_learn_62 ?_
    refine r_iload_n dX3_learn_65 0 rfl ?_
    refine r_iadd dX3_learn_66 ?_
    refine pf_X3_3 0 rfl (Nat.le_of_ble_eq_true rfl) qw_74 dX3_learn_67 (ws' := wM Z hm (upd (upd me 2 (jrem ((jrem n1 10000) + 1) 10000)) 3 ((me 3) + (jrem n2 1000)))) rfl ?_
    refine r_aload_n dX3_learn_70 1 rfl ?_
    refine r_dup dX3_learn_71 rfl ?_
    refine gf_X3_4 (v := .int (me 4)) 0 rfl rfl qw_77 dX3_learn_72 ?_
    refine r_iconst (v := 1) dX3_learn_75 kic_1 ?_
    refine r_iadd dX3_learn_76 ?_
    refine pf_X3_4 0 rfl (Nat.le_of_ble_eq_true rfl) qw_77 dX3_learn_77 (ws' := wM Z hm (upd (upd (upd me 2 (jrem ((jrem n1 10000) + 1) 10000)) 3 ((me 3) + (jrem n2 1000))) 4 ((me 4) + 1))) rfl ?_
    refine r_aload_n dX3_learn_80 1 rfl ?_
    refine r_dup dX3_learn_81 rfl ?_
    refine gf_X3_5 (v := .int (me 5)) 0 rfl rfl qw_80 dX3_learn_82 ?_
    refine r_iload_n dX3_learn_85 3 rfl ?_
    refine r_sipush (v := 1000) dX3_learn_86 ksp_1000 ?_
    refine r_idiv dX3_learn_89 (by decide) ?_
    obtain ⟨o90, e90, hg⟩ := ob hg
    refine r_callSN (As := [.int (n2 / 1000)]) (rest := [.int (me 5), .ref hm]) (ws' := wM Z hm (upd (upd (upd me 2 (jrem ((jrem n1 10000) + 1) 10000)) 3 ((me 3) + (jrem n2 1000))) 4 ((me 4) + 1))) (fun l => c_X6_lengthOf Z l   (n2 / 1000) o90 e90) qw_307 ms_X6_lengthOf xPk.none ⟨Nat.le_of_ble_eq_true rfl, Nat.le_of_ble_eq_true rfl⟩ ⟨rfl, rfl⟩ ⟨Nat.zero_le _, Nat.zero_le _⟩ rfl (Nat.le_of_ble_eq_true rfl) rfl dX3_learn_90 ?_
    refine r_isub dX3_learn_93 ?_
    refine pf_X3_5 0 rfl (Nat.le_of_ble_eq_true rfl) qw_80 dX3_learn_94 (ws' := wM Z hm (upd (upd (upd (upd me 2 (jrem ((jrem n1 10000) + 1) 10000)) 3 ((me 3) + (jrem n2 1000))) 4 ((me 4) + 1)) 5 ((me 5) - o90))) rfl ?_
    refine r_goto (tgt := 144) dX3_learn_97 (by decide) ?_
    exact r_vret (hE _ (Option.some.inj hg)) dX3_learn_144
  replace hg := (if_neg h26_0).symm.trans hg
  by_cases h26_1 : (n1 / 10000) = 1
  · replace hg := (if_pos h26_1).symm.trans hg
    refine r_tableIn (tgt := 100) (off := 74) dX3_learn_26 (by rw [h26_1]; decide) (by rw [h26_1]; decide) (by rw [h26_1]; decide) (by decide) ?_
    refine r_aload_n dX3_learn_100 1 rfl ?_
    refine r_dup dX3_learn_101 rfl ?_
    refine gf_X3_3 (v := .int (me 3)) 0 rfl rfl qw_74 dX3_learn_102 ?_
    refine r_iload_n dX3_learn_105 0 rfl ?_
    refine r_isub dX3_learn_106 ?_
    refine pf_X3_3 0 rfl (Nat.le_of_ble_eq_true rfl) qw_74 dX3_learn_107 (ws' := wM Z hm (upd (upd me 2 (jrem ((jrem n1 10000) + 1) 10000)) 3 ((me 3) - (jrem n2 1000)))) rfl ?_
    refine r_aload_n dX3_learn_110 1 rfl ?_
    refine r_dup dX3_learn_111 rfl ?_
    refine gf_X3_4 (v := .int (me 4)) 0 rfl rfl qw_77 dX3_learn_112 ?_
    refine r_iconst (v := 1) dX3_learn_115 kic_1 ?_
    refine r_isub dX3_learn_116 ?_
    refine pf_X3_4 0 rfl (Nat.le_of_ble_eq_true rfl) qw_77 dX3_learn_117 (ws' := wM Z hm (upd (upd (upd me 2 (jrem ((jrem n1 10000) + 1) 10000)) 3 ((me 3) - (jrem n2 1000))) 4 ((me 4) - 1))) rfl ?_
    refine r_goto (tgt := 144) dX3_learn_120 (by decide) ?_
    exact r_vret (hE _ (Option.some.inj hg)) dX3_learn_144
  replace hg := (if_neg h26_1).symm.trans hg
  by_cases h26_3 : (n1 / 10000) = 3
  · replace hg := (if_pos h26_3).symm.trans hg
    refine r_tableIn (tgt := 123) (off := 97) dX3_learn_26 (by rw [h26_3]; decide) (by rw [h26_3]; decide) (by rw [h26_3]; decide) (by decide) ?_
    refine r_aload_n dX3_learn_123 1 rfl ?_
    refine r_iconst (v := 0) dX3_learn_124 kic_0 ?_
    refine pf_X3_3 0 rfl (Nat.le_of_ble_eq_true rfl) qw_74 dX3_learn_125 (ws' := wM Z hm (upd (upd me 2 (jrem ((jrem n1 10000) + 1) 10000)) 3 0)) rfl ?_
    refine r_aload_n dX3_learn_128 1 rfl ?_
    refine r_iconst (v := 0) dX3_learn_129 kic_0 ?_
    refine pf_X3_4 0 rfl (Nat.le_of_ble_eq_true rfl) qw_77 dX3_learn_130 (ws' := wM Z hm (upd (upd (upd me 2 (jrem ((jrem n1 10000) + 1) 10000)) 3 0) 4 0)) rfl ?_
    refine r_goto (tgt := 144) dX3_learn_133 (by decide) ?_
    exact r_vret (hE _ (Option.some.inj hg)) dX3_learn_144
  replace hg := (if_neg h26_3).symm.trans hg
  by_cases h26_4 : (n1 / 10000) = 4
  · replace hg := (if_pos h26_4).symm.trans hg
    refine r_tableIn (tgt := 136) (off := 110) dX3_learn_26 (by rw [h26_4]; decide) (by rw [h26_4]; decide) (by rw [h26_4]; decide) (by decide) ?_
    refine r_aload_n dX3_learn_136 1 rfl ?_
    refine r_iload_n dX3_learn_137 3 rfl ?_
    refine pf_X3_5 0 rfl (Nat.le_of_ble_eq_true rfl) qw_80 dX3_learn_138 (ws' := wM Z hm (upd (upd me 2 (jrem ((jrem n1 10000) + 1) 10000)) 5 n2)) rfl ?_
    refine r_goto (tgt := 144) dX3_learn_141 (by decide) ?_
    exact r_vret (hE _ (Option.some.inj hg)) dX3_learn_144
  replace hg := (if_neg h26_4).symm.trans hg
  by_cases h26_2 : (n1 / 10000) = 2
  · refine r_tableIn (tgt := 144) (off := 118) dX3_learn_26 (by rw [h26_2]; decide) (by rw [h26_2]; decide) (by rw [h26_2]; decide) (by decide) ?_
    exact r_vret (hE _ (Option.some.inj hg)) dX3_learn_144
  have n26_0 : ¬ (n1 / 10000).toInt = 0 := x_nei (by decide) h26_0
  have n26_1 : ¬ (n1 / 10000).toInt = 1 := x_nei (by decide) h26_1
  have n26_3 : ¬ (n1 / 10000).toInt = 3 := x_nei (by decide) h26_3
  have n26_4 : ¬ (n1 / 10000).toInt = 4 := x_nei (by decide) h26_4
  have n26_2 : ¬ (n1 / 10000).toInt = 2 := x_nei (by decide) h26_2
  refine r_tableOut (tgt := 144) dX3_learn_26 (by omega) (by decide) ?_
  exact r_vret (hE _ (Option.some.inj hg)) dX3_learn_144

-- TicketJournal$Memory.recall(LTicketJournal$Flash;)V
abbrev rm_X3_recall : Room := { frames := 4, cells := 0, slots := 0, locals := 92 }
def g_X3_recall_116 (w : Nat → Int32) (k74 : Int32 → (Nat → Int32) → Option ((Nat → Int32))) (x2 : Int32) (me : Nat → Int32) : Option ((Nat → Int32)) :=
  k74 (x2 + 1) me
def g_X3_recall_74 (w : Nat → Int32)  : Nat → Int32 → (Nat → Int32) → Option ((Nat → Int32))
  | 0 => fun _ _ => none
  | n + 1 => fun x2 me => (if 4 ≤ x2 then some (me) else (g_X0_stateOf w (me 0) x2).bind fun o85 => (if o85 = 1 then (g_X0_recordWord w (me 0) x2 0).bind fun o100 => (g_X0_recordWord w (me 0) x2 2).bind fun o110 => (g_X3_learn me o100 o110).bind fun o113 => g_X3_recall_116 w (g_X3_recall_74 w n) x2 o113 else g_X3_recall_116 w (g_X3_recall_74 w n) x2 me))
def g_X3_recall (me : Nat → Int32) (w : Nat → Int32)  : Option ((Nat → Int32)) :=
  (g_X0_newestBlock w).bind fun o2 => (g_X0_nextPlaceIn w o2).bind fun o14 => (g_X0_read w o2 1).bind fun o27 => (g_X0_read w o2 2).bind fun o40 => (g_X0_read w o2 3).bind fun o53 => (g_X0_read w o2 4).bind fun o66 => g_X3_recall_74 w 12 0 (upd (upd (upd (upd (upd (upd me 0 o2) 1 o14) 3 o27) 4 o40) 5 o53) 2 o66)
set_option maxHeartbeats 4000000 in
set_option maxRecDepth 100000 in
theorem c_X3_recall (Z : GZ) (l : Launch) (hm : Nat) (h : Nat) (hw : Nat) (he : Nat) (me : Nat → Int32) (w : Nat → Int32) (er : Nat → Int32) (fl : Nat → Int32)  (o : ((Nat → Int32))) (hg : g_X3_recall me w = some o) : Con Z l yX3_recall cX3_recall 3 none rm_X3_recall [.ref hm, .ref h] (wM Z hm me ++ (wF Z h hw he w er fl)) none (wM Z hm o ++ (wF Z h hw he w er fl)) := by
  refine Con.of (by decide) (Nat.le_of_ble_eq_true rfl) ?_
  intro X hE0
  have hE : ∀ z, z = o → endsX X Z none none (wM Z hm z ++ (wF Z h hw he w er fl)) := by
    rintro _ rfl; exact hE0
  have J116 : ∀ (k74 : Int32 → (Nat → Int32) → Option ((Nat → Int32))) (hk74 : ∀ (x2 : Int32) (me : Nat → Int32), k74 x2 me = some o → AtK X Z rm_X3_recall cX3_recall RX3 3 0 0 (wM Z hm me ++ (wF Z h hw he w er fl)) 74 [(0, .ref hm), (1, .ref h), (2, .int x2)] []), ∀ (x2 : Int32) (me : Nat → Int32), g_X3_recall_116 w k74 x2 me = some o → AtK X Z rm_X3_recall cX3_recall RX3 3 0 0 (wM Z hm me ++ (wF Z h hw he w er fl)) 116 [(0, .ref hm), (1, .ref h), (2, .int x2)] [] := by
    intro k74 hk74 x2 me hg
    unfold g_X3_recall_116 at hg
    refine r_iinc (v := (x2 + 1)) (lv' := [(2, .int (x2 + 1)), (0, .ref hm), (1, .ref h)]) dX3_recall_116 (k := 2) rfl rfl (by decide) rfl ?_
    refine r_goto (tgt := 74) dX3_recall_119 (by decide) ?_
    exact r_sub [1, 2, 0] rfl (hk74 (x2 + 1) me hg)
  have J74 : ∀ (n : Nat), ∀ (x2 : Int32) (me : Nat → Int32), g_X3_recall_74 w n x2 me = some o → AtK X Z rm_X3_recall cX3_recall RX3 3 0 0 (wM Z hm me ++ (wF Z h hw he w er fl)) 74 [(0, .ref hm), (1, .ref h), (2, .int x2)] [] := by
    intro  n
    induction n with
    | zero => intro x2 me hg; exact nomatch (show (none : Option _) = some o from hg)
    | succ n ih =>
      intro x2 me hg
      unfold g_X3_recall_74 at hg
      refine r_iload_n dX3_recall_74 2 rfl ?_
      refine r_iconst (v := 4) dX3_recall_75 kic_4 ?_
      refine r_icmp_ge (tgt := 122) dX3_recall_76 (by decide) (fun h76 => ?_) (fun h76 => ?_)
      · replace hg := (if_pos h76).symm.trans hg
        exact r_vret (hE _ (Option.some.inj hg)) dX3_recall_122
      · replace hg := (if_neg h76).symm.trans hg
        refine r_aload_n dX3_recall_79 1 rfl ?_
        refine r_aload_n dX3_recall_80 0 rfl ?_
        refine gf_X3_0 (v := .int (me 0)) 0 rfl rfl qw_65 dX3_recall_81 ?_
        refine r_iload_n dX3_recall_84 2 rfl ?_
        obtain ⟨o85, e85, hg⟩ := ob hg
        refine r_callV (As := [.int (me 0), .int x2]) (rest := []) (ws' := wM Z hm me ++ (wF Z h hw he w er fl)) 0 rfl rfl rfl (fun l => c_X0_stateOf Z l h hw he w er fl (me 0) x2 o85 e85) qw_430 mv_X0_stateOf (xPk.idx [1, 2, 3] rfl rfl rfl rfl rfl) ⟨Nat.le_of_ble_eq_true rfl, Nat.le_of_ble_eq_true rfl⟩ ⟨rfl, rfl⟩ ⟨Nat.zero_le _, Nat.zero_le _⟩ rfl (Nat.le_of_ble_eq_true rfl) rfl dX3_recall_85 ?_
        refine r_iconst (v := 1) dX3_recall_88 kic_1 ?_
        refine r_icmp_ne (tgt := 116) dX3_recall_89 (by decide) (fun h89 => ?_) (fun h89 => ?_)
        · replace hg := (if_neg h89).symm.trans hg
          exact r_sub [0, 1, 2] rfl (J116 (g_X3_recall_74 w n) ih x2 me hg)
        · replace hg := (if_pos h89).symm.trans hg
          refine r_aload_n dX3_recall_92 0 rfl ?_
          refine r_aload_n dX3_recall_93 1 rfl ?_
          refine r_aload_n dX3_recall_94 0 rfl ?_
          refine gf_X3_0 (v := .int (me 0)) 0 rfl rfl qw_65 dX3_recall_95 ?_
          refine r_iload_n dX3_recall_98 2 rfl ?_
          refine r_iconst (v := 0) dX3_recall_99 kic_0 ?_
          obtain ⟨o100, e100, hg⟩ := ob hg
          refine r_callV (As := [.int (me 0), .int x2, .int 0]) (rest := [.ref hm]) (ws' := wM Z hm me ++ (wF Z h hw he w er fl)) 0 rfl rfl rfl (fun l => c_X0_recordWord Z l h hw he w er fl (me 0) x2 0 o100 e100) qw_431 mv_X0_recordWord (xPk.idx [1, 2, 3] rfl rfl rfl rfl rfl) ⟨Nat.le_of_ble_eq_true rfl, Nat.le_of_ble_eq_true rfl⟩ ⟨rfl, rfl⟩ ⟨Nat.zero_le _, Nat.zero_le _⟩ rfl (Nat.le_of_ble_eq_true rfl) rfl dX3_recall_100 ?_
          refine r_aload_n dX3_recall_103 1 rfl ?_
          refine r_aload_n dX3_recall_104 0 rfl ?_
          refine gf_X3_0 (v := .int (me 0)) 0 rfl rfl qw_65 dX3_recall_105 ?_
          refine r_iload_n dX3_recall_108 2 rfl ?_
          refine r_iconst (v := 2) dX3_recall_109 kic_2 ?_
          obtain ⟨o110, e110, hg⟩ := ob hg
          refine r_callV (As := [.int (me 0), .int x2, .int 2]) (rest := [.int o100, .ref hm]) (ws' := wM Z hm me ++ (wF Z h hw he w er fl)) 0 rfl rfl rfl (fun l => c_X0_recordWord Z l h hw he w er fl (me 0) x2 2 o110 e110) qw_431 mv_X0_recordWord (xPk.idx [1, 2, 3] rfl rfl rfl rfl rfl) ⟨Nat.le_of_ble_eq_true rfl, Nat.le_of_ble_eq_true rfl⟩ ⟨rfl, rfl⟩ ⟨Nat.zero_le _, Nat.zero_le _⟩ rfl (Nat.le_of_ble_eq_true rfl) rfl dX3_recall_110 ?_
          obtain ⟨o113, e113, hg⟩ := ob hg
          refine r_callV (As := [.int o100, .int o110]) (rest := []) (ws' := wM Z hm o113 ++ (wF Z h hw he w er fl)) 0 rfl rfl rfl (fun l => c_X3_learn Z l hm me o100 o110 o113 e113) qw_432 mv_X3_learn (xPk.idx [0] rfl rfl rfl rfl rfl) ⟨Nat.le_of_ble_eq_true rfl, Nat.le_of_ble_eq_true rfl⟩ ⟨rfl, rfl⟩ ⟨Nat.zero_le _, Nat.zero_le _⟩ rfl (Nat.le_of_ble_eq_true rfl) rfl dX3_recall_113 ?_
          exact r_sub [0, 1, 2] rfl (J116 (g_X3_recall_74 w n) ih x2 o113 hg)
  unfold g_X3_recall at hg
  show AtK X Z rm_X3_recall cX3_recall RX3 3 0 0 (wM Z hm me ++ (wF Z h hw he w er fl)) 0 [(0, .ref hm), (1, .ref h)] []
  refine r_aload_n dX3_recall_0 0 rfl ?_
  refine r_aload_n dX3_recall_1 1 rfl ?_
  obtain ⟨o2, e2, hg⟩ := ob hg
  refine r_callV (As := []) (rest := [.ref hm]) (ws' := wM Z hm me ++ (wF Z h hw he w er fl)) 0 rfl rfl rfl (fun l => c_X0_newestBlock Z l h hw he w er fl  o2 e2) qw_417 mv_X0_newestBlock (xPk.idx [1, 2, 3] rfl rfl rfl rfl rfl) ⟨Nat.le_of_ble_eq_true rfl, Nat.le_of_ble_eq_true rfl⟩ ⟨rfl, rfl⟩ ⟨Nat.zero_le _, Nat.zero_le _⟩ rfl (Nat.le_of_ble_eq_true rfl) rfl dX3_recall_2 ?_
  refine pf_X3_0 0 rfl (Nat.le_of_ble_eq_true rfl) qw_65 dX3_recall_5 (ws' := wM Z hm (upd me 0 o2) ++ (wF Z h hw he w er fl)) rfl ?_
  refine r_aload_n dX3_recall_8 0 rfl ?_
  refine r_aload_n dX3_recall_9 1 rfl ?_
  refine r_aload_n dX3_recall_10 0 rfl ?_
  refine gf_X3_0 (v := .int o2) 0 rfl rfl qw_65 dX3_recall_11 ?_
  obtain ⟨o14, e14, hg⟩ := ob hg
  refine r_callV (As := [.int o2]) (rest := [.ref hm]) (ws' := wM Z hm (upd me 0 o2) ++ (wF Z h hw he w er fl)) 0 rfl rfl rfl (fun l => c_X0_nextPlaceIn Z l h hw he w er fl o2 o14 e14) qw_425 mv_X0_nextPlaceIn (xPk.idx [1, 2, 3] rfl rfl rfl rfl rfl) ⟨Nat.le_of_ble_eq_true rfl, Nat.le_of_ble_eq_true rfl⟩ ⟨rfl, rfl⟩ ⟨Nat.zero_le _, Nat.zero_le _⟩ rfl (Nat.le_of_ble_eq_true rfl) rfl dX3_recall_14 ?_
  refine pf_X3_1 0 rfl (Nat.le_of_ble_eq_true rfl) qw_68 dX3_recall_17 (ws' := wM Z hm (upd (upd me 0 o2) 1 o14) ++ (wF Z h hw he w er fl)) rfl ?_
  refine r_aload_n dX3_recall_20 0 rfl ?_
  refine r_aload_n dX3_recall_21 1 rfl ?_
  refine r_aload_n dX3_recall_22 0 rfl ?_
  refine gf_X3_0 (v := .int o2) 0 rfl rfl qw_65 dX3_recall_23 ?_
  refine r_iconst (v := 1) dX3_recall_26 kic_1 ?_
  obtain ⟨o27, e27, hg⟩ := ob hg
  refine r_callV (As := [.int o2, .int 1]) (rest := [.ref hm]) (ws' := wM Z hm (upd (upd me 0 o2) 1 o14) ++ (wF Z h hw he w er fl)) 0 rfl rfl rfl (fun l => c_X0_read Z l h hw he w er fl o2 1 o27 e27) qw_429 mv_X0_read (xPk.idx [1, 2, 3] rfl rfl rfl rfl rfl) ⟨Nat.le_of_ble_eq_true rfl, Nat.le_of_ble_eq_true rfl⟩ ⟨rfl, rfl⟩ ⟨Nat.zero_le _, Nat.zero_le _⟩ rfl (Nat.le_of_ble_eq_true rfl) rfl dX3_recall_27 ?_
  refine pf_X3_3 0 rfl (Nat.le_of_ble_eq_true rfl) qw_74 dX3_recall_30 (ws' := wM Z hm (upd (upd (upd me 0 o2) 1 o14) 3 o27) ++ (wF Z h hw he w er fl)) rfl ?_
  refine r_aload_n dX3_recall_33 0 rfl ?_
  refine r_aload_n dX3_recall_34 1 rfl ?_
  refine r_aload_n dX3_recall_35 0 rfl ?_
  refine gf_X3_0 (v := .int o2) 0 rfl rfl qw_65 dX3_recall_36 ?_
  refine r_iconst (v := 2) dX3_recall_39 kic_2 ?_
  obtain ⟨o40, e40, hg⟩ := ob hg
  refine r_callV (As := [.int o2, .int 2]) (rest := [.ref hm]) (ws' := wM Z hm (upd (upd (upd me 0 o2) 1 o14) 3 o27) ++ (wF Z h hw he w er fl)) 0 rfl rfl rfl (fun l => c_X0_read Z l h hw he w er fl o2 2 o40 e40) qw_429 mv_X0_read (xPk.idx [1, 2, 3] rfl rfl rfl rfl rfl) ⟨Nat.le_of_ble_eq_true rfl, Nat.le_of_ble_eq_true rfl⟩ ⟨rfl, rfl⟩ ⟨Nat.zero_le _, Nat.zero_le _⟩ rfl (Nat.le_of_ble_eq_true rfl) rfl dX3_recall_40 ?_
  refine pf_X3_4 0 rfl (Nat.le_of_ble_eq_true rfl) qw_77 dX3_recall_43 (ws' := wM Z hm (upd (upd (upd (upd me 0 o2) 1 o14) 3 o27) 4 o40) ++ (wF Z h hw he w er fl)) rfl ?_
  refine r_aload_n dX3_recall_46 0 rfl ?_
  refine r_aload_n dX3_recall_47 1 rfl ?_
  refine r_aload_n dX3_recall_48 0 rfl ?_
  refine gf_X3_0 (v := .int o2) 0 rfl rfl qw_65 dX3_recall_49 ?_
  refine r_iconst (v := 3) dX3_recall_52 kic_3 ?_
  obtain ⟨o53, e53, hg⟩ := ob hg
  refine r_callV (As := [.int o2, .int 3]) (rest := [.ref hm]) (ws' := wM Z hm (upd (upd (upd (upd me 0 o2) 1 o14) 3 o27) 4 o40) ++ (wF Z h hw he w er fl)) 0 rfl rfl rfl (fun l => c_X0_read Z l h hw he w er fl o2 3 o53 e53) qw_429 mv_X0_read (xPk.idx [1, 2, 3] rfl rfl rfl rfl rfl) ⟨Nat.le_of_ble_eq_true rfl, Nat.le_of_ble_eq_true rfl⟩ ⟨rfl, rfl⟩ ⟨Nat.zero_le _, Nat.zero_le _⟩ rfl (Nat.le_of_ble_eq_true rfl) rfl dX3_recall_53 ?_
  refine pf_X3_5 0 rfl (Nat.le_of_ble_eq_true rfl) qw_80 dX3_recall_56 (ws' := wM Z hm (upd (upd (upd (upd (upd me 0 o2) 1 o14) 3 o27) 4 o40) 5 o53) ++ (wF Z h hw he w er fl)) rfl ?_
  refine r_aload_n dX3_recall_59 0 rfl ?_
  refine r_aload_n dX3_recall_60 1 rfl ?_
  refine r_aload_n dX3_recall_61 0 rfl ?_
  refine gf_X3_0 (v := .int o2) 0 rfl rfl qw_65 dX3_recall_62 ?_
  refine r_iconst (v := 4) dX3_recall_65 kic_4 ?_
  obtain ⟨o66, e66, hg⟩ := ob hg
  refine r_callV (As := [.int o2, .int 4]) (rest := [.ref hm]) (ws' := wM Z hm (upd (upd (upd (upd (upd me 0 o2) 1 o14) 3 o27) 4 o40) 5 o53) ++ (wF Z h hw he w er fl)) 0 rfl rfl rfl (fun l => c_X0_read Z l h hw he w er fl o2 4 o66 e66) qw_429 mv_X0_read (xPk.idx [1, 2, 3] rfl rfl rfl rfl rfl) ⟨Nat.le_of_ble_eq_true rfl, Nat.le_of_ble_eq_true rfl⟩ ⟨rfl, rfl⟩ ⟨Nat.zero_le _, Nat.zero_le _⟩ rfl (Nat.le_of_ble_eq_true rfl) rfl dX3_recall_66 ?_
  refine pf_X3_2 0 rfl (Nat.le_of_ble_eq_true rfl) qw_71 dX3_recall_69 (ws' := wM Z hm (upd (upd (upd (upd (upd (upd me 0 o2) 1 o14) 3 o27) 4 o40) 5 o53) 2 o66) ++ (wF Z h hw he w er fl)) rfl ?_
  refine r_iconst (v := 0) dX3_recall_72 kic_0 ?_
  refine r_istore_n (lv' := [(2, .int 0), (0, .ref hm), (1, .ref h)]) dX3_recall_73 (by decide) rfl ?_
  exact r_sub [1, 2, 0] rfl (J74 12 0 (upd (upd (upd (upd (upd (upd me 0 o2) 1 o14) 3 o27) 4 o40) 5 o53) 2 o66) hg)

-- TicketJournal$Printer.copyFrom(LTicketJournal$Printer;)V
abbrev rm_X5_copyFrom : Room := { frames := 2, cells := 0, slots := 0, locals := 61 }
def g_X5_copyFrom (w : Nat → Int32) (er : Nat → Int32) (fl : Nat → Int32) (me : Nat → Int32) (p : Nat → Int32) (pr : Nat → Int32) (w2 : Nat → Int32) (er2 : Nat → Int32) (fl2 : Nat → Int32) (me2 : Nat → Int32) (p2 : Nat → Int32) (pr2 : Nat → Int32)  : Option ((Nat → Int32) × (Nat → Int32) × (Nat → Int32) × (Nat → Int32) × (Nat → Int32) × (Nat → Int32)) :=
  (g_X0_copyFrom w er fl w2 er2 fl2).bind fun o8 => (g_X3_copyFrom me me2).bind fun o19 => (if ¬ ((pr2 0) = 0 ∨ (pr2 0) = 1) then none else some (o8.1, o8.2.1, o8.2.2, o19, p2, (upd (upd (upd (upd pr 0 (pr2 0)) 1 (pr2 1)) 2 (pr2 2)) 3 (pr2 3))))
set_option maxHeartbeats 4000000 in
set_option maxRecDepth 100000 in
theorem c_X5_copyFrom (Z : GZ) (l : Launch) (a : Nat → Nat) (b : Nat → Nat) (w : Nat → Int32) (er : Nat → Int32) (fl : Nat → Int32) (me : Nat → Int32) (p : Nat → Int32) (pr : Nat → Int32) (w2 : Nat → Int32) (er2 : Nat → Int32) (fl2 : Nat → Int32) (me2 : Nat → Int32) (p2 : Nat → Int32) (pr2 : Nat → Int32)  (o : ((Nat → Int32) × (Nat → Int32) × (Nat → Int32) × (Nat → Int32) × (Nat → Int32) × (Nat → Int32))) (hg : g_X5_copyFrom w er fl me p pr w2 er2 fl2 me2 p2 pr2 = some o) : Con Z l yX5_copyFrom cX5_copyFrom 2 none rm_X5_copyFrom [.ref (a 0), .ref (b 0)] (wP Z a w er fl me p pr ++ (wP Z b w2 er2 fl2 me2 p2 pr2)) none (wP Z a o.1 o.2.1 o.2.2.1 o.2.2.2.1 o.2.2.2.2.1 o.2.2.2.2.2 ++ (wP Z b w2 er2 fl2 me2 p2 pr2)) := by
  refine Con.of (by decide) (Nat.le_of_ble_eq_true rfl) ?_
  intro X hE0
  have hE : ∀ z, z = o → endsX X Z none none (wP Z a z.1 z.2.1 z.2.2.1 z.2.2.2.1 z.2.2.2.2.1 z.2.2.2.2.2 ++ (wP Z b w2 er2 fl2 me2 p2 pr2)) := by
    rintro _ rfl; exact hE0
  unfold g_X5_copyFrom at hg
  show AtK X Z rm_X5_copyFrom cX5_copyFrom RX5 2 0 0 (wP Z a w er fl me p pr ++ (wP Z b w2 er2 fl2 me2 p2 pr2)) 0 [(0, .ref (a 0)), (1, .ref (b 0))] []
  refine r_aload_n dX5_copyFrom_0 0 rfl ?_
  refine gf_X5_0 (v := .ref (a 1)) 0 rfl rfl qw_96 dX5_copyFrom_1 ?_
  refine r_aload_n dX5_copyFrom_4 1 rfl ?_
  refine gf_X5_0 (v := .ref (b 1)) 6 rfl rfl qw_96 dX5_copyFrom_5 ?_
  obtain ⟨o8, e8, hg⟩ := ob hg
  refine r_callV (As := [.ref (b 1)]) (rest := []) (ws' := wP Z a o8.1 o8.2.1 o8.2.2 me p pr ++ (wP Z b w2 er2 fl2 me2 p2 pr2)) 0 rfl rfl rfl (fun l => c_X0_copyFrom Z l (a 1) (a 2) (a 3) (b 1) (b 2) (b 3) w er fl w2 er2 fl2  o8 e8) qw_244 mv_X0_copyFrom (xPk.idx [1, 2, 3, 7, 8, 9] rfl rfl rfl rfl rfl) ⟨Nat.le_of_ble_eq_true rfl, Nat.le_of_ble_eq_true rfl⟩ ⟨rfl, rfl⟩ ⟨Nat.zero_le _, Nat.zero_le _⟩ rfl (Nat.le_of_ble_eq_true rfl) rfl dX5_copyFrom_8 ?_
  refine r_aload_n dX5_copyFrom_11 0 rfl ?_
  refine gf_X5_1 (v := .ref (a 4)) 0 rfl rfl qw_98 dX5_copyFrom_12 ?_
  refine r_aload_n dX5_copyFrom_15 1 rfl ?_
  refine gf_X5_1 (v := .ref (b 4)) 6 rfl rfl qw_98 dX5_copyFrom_16 ?_
  obtain ⟨o19, e19, hg⟩ := ob hg
  refine r_callV (As := [.ref (b 4)]) (rest := []) (ws' := wP Z a o8.1 o8.2.1 o8.2.2 o19 p pr ++ (wP Z b w2 er2 fl2 me2 p2 pr2)) 0 rfl rfl rfl (fun l => c_X3_copyFrom Z l (a 4) (b 4) me me2  o19 e19) qw_251 mv_X3_copyFrom (xPk.idx [4, 10] rfl rfl rfl rfl rfl) ⟨Nat.le_of_ble_eq_true rfl, Nat.le_of_ble_eq_true rfl⟩ ⟨rfl, rfl⟩ ⟨Nat.zero_le _, Nat.zero_le _⟩ rfl (Nat.le_of_ble_eq_true rfl) rfl dX5_copyFrom_19 ?_
  refine r_aload_n dX5_copyFrom_22 1 rfl ?_
  refine gf_X5_2 (v := .ref (b 5)) 6 rfl rfl qw_100 dX5_copyFrom_23 ?_
  refine r_iconst (v := 0) dX5_copyFrom_26 kic_0 ?_
  refine r_aload_n dX5_copyFrom_27 0 rfl ?_
  refine gf_X5_2 (v := .ref (a 5)) 0 rfl rfl qw_100 dX5_copyFrom_28 ?_
  refine r_iconst (v := 0) dX5_copyFrom_31 kic_0 ?_
  refine r_iconst (v := 4) dX5_copyFrom_32 kic_4 ?_
  refine r_copyi 11 5 rfl rfl (by decide) (by decide) qw_255 qw_250 qw_249 qw_20 (Nat.le_of_ble_eq_true rfl) (Nat.le_of_ble_eq_true rfl) dX5_copyFrom_33 (ws' := wP Z a o8.1 o8.2.1 o8.2.2 o19 p2 pr ++ (wP Z b w2 er2 fl2 me2 p2 pr2)) rfl ?_
  refine r_aload_n dX5_copyFrom_36 0 rfl ?_
  refine r_aload_n dX5_copyFrom_37 1 rfl ?_
  refine gf_X5_3 (v := .int (pr2 0)) 6 rfl rfl qw_101 dX5_copyFrom_38 ?_
  obtain ⟨hz41, hg⟩ := og hg
  refine pf_X5_3 (Decidable.not_not.mp hz41) 0 rfl (Nat.le_of_ble_eq_true rfl) qw_101 dX5_copyFrom_41 (ws' := wP Z a o8.1 o8.2.1 o8.2.2 o19 p2 (upd pr 0 (pr2 0)) ++ (wP Z b w2 er2 fl2 me2 p2 pr2)) rfl ?_
  refine r_aload_n dX5_copyFrom_44 0 rfl ?_
  refine r_aload_n dX5_copyFrom_45 1 rfl ?_
  refine gf_X5_4 (v := .int (pr2 1)) 6 rfl rfl qw_103 dX5_copyFrom_46 ?_
  refine pf_X5_4 0 rfl (Nat.le_of_ble_eq_true rfl) qw_103 dX5_copyFrom_49 (ws' := wP Z a o8.1 o8.2.1 o8.2.2 o19 p2 (upd (upd pr 0 (pr2 0)) 1 (pr2 1)) ++ (wP Z b w2 er2 fl2 me2 p2 pr2)) rfl ?_
  refine r_aload_n dX5_copyFrom_52 0 rfl ?_
  refine r_aload_n dX5_copyFrom_53 1 rfl ?_
  refine gf_X5_5 (v := .int (pr2 2)) 6 rfl rfl qw_105 dX5_copyFrom_54 ?_
  refine pf_X5_5 0 rfl (Nat.le_of_ble_eq_true rfl) qw_105 dX5_copyFrom_57 (ws' := wP Z a o8.1 o8.2.1 o8.2.2 o19 p2 (upd (upd (upd pr 0 (pr2 0)) 1 (pr2 1)) 2 (pr2 2)) ++ (wP Z b w2 er2 fl2 me2 p2 pr2)) rfl ?_
  refine r_aload_n dX5_copyFrom_60 0 rfl ?_
  refine r_aload_n dX5_copyFrom_61 1 rfl ?_
  refine gf_X5_6 (v := .int (pr2 3)) 6 rfl rfl qw_107 dX5_copyFrom_62 ?_
  refine pf_X5_6 0 rfl (Nat.le_of_ble_eq_true rfl) qw_107 dX5_copyFrom_65 (ws' := wP Z a o8.1 o8.2.1 o8.2.2 o19 p2 (upd (upd (upd (upd pr 0 (pr2 0)) 1 (pr2 1)) 2 (pr2 2)) 3 (pr2 3)) ++ (wP Z b w2 er2 fl2 me2 p2 pr2)) rfl ?_
  exact r_vret (hE _ (Option.some.inj hg)) dX5_copyFrom_68

-- TicketJournal$Printer.priceOf(I)I
abbrev rm_X5_priceOf : Room := { frames := 0, cells := 0, slots := 0, locals := 0 }
def g_X5_priceOf_22 (p : Nat → Int32)   : Option (Int32) :=
  some (0)
def g_X5_priceOf (p : Nat → Int32) (n1 : Int32) : Option (Int32) :=
  (if n1 < 0 then g_X5_priceOf_22 p else (if 4 ≤ n1 then g_X5_priceOf_22 p else (if n1 < 0 ∨ 4 ≤ n1.toNatClampNeg then none else some ((p n1.toNatClampNeg)))))
set_option maxHeartbeats 4000000 in
set_option maxRecDepth 100000 in
theorem c_X5_priceOf (Z : GZ) (l : Launch) (a : Nat → Nat) (w : Nat → Int32) (er : Nat → Int32) (fl : Nat → Int32) (me : Nat → Int32) (p : Nat → Int32) (pr : Nat → Int32) (n1 : Int32) (o : (Int32)) (hg : g_X5_priceOf p n1 = some o) : Con Z l yX5_priceOf cX5_priceOf 2 (some .int) rm_X5_priceOf [.ref (a 0), .int n1] (wP Z a w er fl me p pr) (some (.int o)) (wP Z a w er fl me p pr) := by
  refine Con.of (by decide) (Nat.le_of_ble_eq_true rfl) ?_
  intro X hE0
  have hE : ∀ z, z = o → endsX X Z (some .int) (some (.int z)) (wP Z a w er fl me p pr) := by
    rintro _ rfl; exact hE0
  have J22 : g_X5_priceOf_22 p = some o → AtK X Z rm_X5_priceOf cX5_priceOf RX5 2 0 0 (wP Z a w er fl me p pr) 22 [] [] := by
    intro  hg
    unfold g_X5_priceOf_22 at hg
    refine r_iconst (v := 0) dX5_priceOf_22 kic_0 ?_
    exact r_iret (hE _ (Option.some.inj hg)) dX5_priceOf_23
  unfold g_X5_priceOf at hg
  show AtK X Z rm_X5_priceOf cX5_priceOf RX5 2 0 0 (wP Z a w er fl me p pr) 0 [(0, .ref (a 0)), (1, .int n1)] []
  refine r_iload_n dX5_priceOf_0 1 rfl ?_
  refine r_if_lt (tgt := 22) dX5_priceOf_1 (by decide) (fun h1 => ?_) (fun h1 => ?_)
  · replace hg := (if_pos h1).symm.trans hg
    exact r_sub [] rfl (J22 hg)
  · replace hg := (if_neg h1).symm.trans hg
    refine r_iload_n dX5_priceOf_4 1 rfl ?_
    refine r_aload_n dX5_priceOf_5 0 rfl ?_
    refine gf_X5_2 (v := .ref (a 5)) 0 rfl rfl qw_100 dX5_priceOf_6 ?_
    refine r_alen 5 0 rfl rfl (v := 4) (by decide) dX5_priceOf_9 ?_
    refine r_icmp_ge (tgt := 22) dX5_priceOf_10 (by decide) (fun h10 => ?_) (fun h10 => ?_)
    · replace hg := (if_pos h10).symm.trans hg
      exact r_sub [] rfl (J22 hg)
    · replace hg := (if_neg h10).symm.trans hg
      refine r_aload_n dX5_priceOf_13 0 rfl ?_
      refine gf_X5_2 (v := .ref (a 5)) 0 rfl rfl qw_100 dX5_priceOf_14 ?_
      refine r_iload_n dX5_priceOf_17 1 rfl ?_
      obtain ⟨hi18, hg⟩ := og hg
      refine r_iald 5 rfl hi18 dX5_priceOf_18 ?_
      refine r_goto (tgt := 23) dX5_priceOf_19 (by decide) ?_
      exact r_iret (hE _ (Option.some.inj hg)) dX5_priceOf_23

-- TicketJournal$Printer.changePrice(II)V
abbrev rm_X5_changePrice : Room := { frames := 0, cells := 0, slots := 0, locals := 0 }
def g_X5_changePrice (p : Nat → Int32) (n1 : Int32) (n2 : Int32) : Option ((Nat → Int32)) :=
  (if n1 < 0 then some (p) else (if 4 ≤ n1 then some (p) else (if n1 < 0 ∨ 4 ≤ n1.toNatClampNeg then none else some ((upd p n1.toNatClampNeg n2)))))
set_option maxHeartbeats 4000000 in
set_option maxRecDepth 100000 in
theorem c_X5_changePrice (Z : GZ) (l : Launch) (a : Nat → Nat) (w : Nat → Int32) (er : Nat → Int32) (fl : Nat → Int32) (me : Nat → Int32) (p : Nat → Int32) (pr : Nat → Int32) (n1 : Int32) (n2 : Int32) (o : ((Nat → Int32))) (hg : g_X5_changePrice p n1 n2 = some o) : Con Z l yX5_changePrice cX5_changePrice 3 none rm_X5_changePrice [.ref (a 0), .int n1, .int n2] (wP Z a w er fl me p pr) none (wP Z a w er fl me o pr) := by
  refine Con.of (by decide) (Nat.le_of_ble_eq_true rfl) ?_
  intro X hE0
  have hE : ∀ z, z = o → endsX X Z none none (wP Z a w er fl me z pr) := by
    rintro _ rfl; exact hE0
  unfold g_X5_changePrice at hg
  show AtK X Z rm_X5_changePrice cX5_changePrice RX5 3 0 0 (wP Z a w er fl me p pr) 0 [(0, .ref (a 0)), (1, .int n1), (2, .int n2)] []
  refine r_iload_n dX5_changePrice_0 1 rfl ?_
  refine r_if_lt (tgt := 20) dX5_changePrice_1 (by decide) (fun h1 => ?_) (fun h1 => ?_)
  · replace hg := (if_pos h1).symm.trans hg
    exact r_vret (hE _ (Option.some.inj hg)) dX5_changePrice_20
  · replace hg := (if_neg h1).symm.trans hg
    refine r_iload_n dX5_changePrice_4 1 rfl ?_
    refine r_aload_n dX5_changePrice_5 0 rfl ?_
    refine gf_X5_2 (v := .ref (a 5)) 0 rfl rfl qw_100 dX5_changePrice_6 ?_
    refine r_alen 5 0 rfl rfl (v := 4) (by decide) dX5_changePrice_9 ?_
    refine r_icmp_ge (tgt := 20) dX5_changePrice_10 (by decide) (fun h10 => ?_) (fun h10 => ?_)
    · replace hg := (if_pos h10).symm.trans hg
      exact r_vret (hE _ (Option.some.inj hg)) dX5_changePrice_20
    · replace hg := (if_neg h10).symm.trans hg
      refine r_aload_n dX5_changePrice_13 0 rfl ?_
      refine gf_X5_2 (v := .ref (a 5)) 0 rfl rfl qw_100 dX5_changePrice_14 ?_
      refine r_iload_n dX5_changePrice_17 1 rfl ?_
      refine r_iload_n dX5_changePrice_18 2 rfl ?_
      obtain ⟨hi19, hg⟩ := og hg
      refine r_iast 5 rfl rfl hi19 dX5_changePrice_19 (ws' := wP Z a w er fl me (upd p n1.toNatClampNeg n2) pr) rfl ?_
      exact r_vret (hE _ (Option.some.inj hg)) dX5_changePrice_20

-- TicketJournal$Printer.refusalOf(I)I
abbrev rm_X5_refusalOf : Room := { frames := 2, cells := 0, slots := 0, locals := 42 }
def g_X5_refusalOf_34 (me : Nat → Int32) (p : Nat → Int32) (pr : Nat → Int32)   : Option (Int32) :=
  some ((-2))
def g_X5_refusalOf (me : Nat → Int32) (p : Nat → Int32) (pr : Nat → Int32) (n1 : Int32) : Option (Int32) :=
  (g_X6_isSort n1).bind fun o1 => (if o1 = 0 then some ((-1)) else (if (pr 0) = 0 then g_X5_refusalOf_34 me p pr else (g_X5_priceOf p n1).bind fun o25 => (if ((me 3) + o25) ≤ 60000 then (g_X6_lengthOf n1).bind fun o45 => (if o45 ≤ (me 5) then some (0) else some ((-3))) else g_X5_refusalOf_34 me p pr)))
set_option maxHeartbeats 4000000 in
set_option maxRecDepth 100000 in
theorem c_X5_refusalOf (Z : GZ) (l : Launch) (a : Nat → Nat) (w : Nat → Int32) (er : Nat → Int32) (fl : Nat → Int32) (me : Nat → Int32) (p : Nat → Int32) (pr : Nat → Int32) (n1 : Int32) (o : (Int32)) (hg : g_X5_refusalOf me p pr n1 = some o) : Con Z l yX5_refusalOf cX5_refusalOf 2 (some .int) rm_X5_refusalOf [.ref (a 0), .int n1] (wP Z a w er fl me p pr) (some (.int o)) (wP Z a w er fl me p pr) := by
  refine Con.of (by decide) (Nat.le_of_ble_eq_true rfl) ?_
  intro X hE0
  have hE : ∀ z, z = o → endsX X Z (some .int) (some (.int z)) (wP Z a w er fl me p pr) := by
    rintro _ rfl; exact hE0
  have J34 : g_X5_refusalOf_34 me p pr = some o → AtK X Z rm_X5_refusalOf cX5_refusalOf RX5 2 0 0 (wP Z a w er fl me p pr) 34 [] [] := by
    intro  hg
    unfold g_X5_refusalOf_34 at hg
    refine r_bipush (v := (-2)) dX5_refusalOf_34 kbp_m2 ?_
    exact r_iret (hE _ (Option.some.inj hg)) dX5_refusalOf_36
  unfold g_X5_refusalOf at hg
  show AtK X Z rm_X5_refusalOf cX5_refusalOf RX5 2 0 0 (wP Z a w er fl me p pr) 0 [(0, .ref (a 0)), (1, .int n1)] []
  refine r_iload_n dX5_refusalOf_0 1 rfl ?_
  obtain ⟨o1, e1, hg⟩ := ob hg
  refine r_callSN (As := [.int n1]) (rest := []) (ws' := wP Z a w er fl me p pr) (fun l => c_X6_isSort Z l   n1 o1 e1) qw_221 ms_X6_isSort xPk.none ⟨Nat.le_of_ble_eq_true rfl, Nat.le_of_ble_eq_true rfl⟩ ⟨rfl, rfl⟩ ⟨Nat.zero_le _, Nat.zero_le _⟩ rfl (Nat.le_of_ble_eq_true rfl) rfl dX5_refusalOf_1 ?_
  refine r_if_ne (tgt := 9) dX5_refusalOf_4 (by decide) (fun h4 => ?_) (fun h4 => ?_)
  · replace hg := (if_neg h4).symm.trans hg
    refine r_aload_n dX5_refusalOf_9 0 rfl ?_
    refine gf_X5_3 (v := .int (pr 0)) 0 rfl rfl qw_101 dX5_refusalOf_10 ?_
    refine r_if_eq (tgt := 34) dX5_refusalOf_13 (by decide) (fun h13 => ?_) (fun h13 => ?_)
    · replace hg := (if_pos h13).symm.trans hg
      exact r_sub [] rfl (J34 hg)
    · replace hg := (if_neg h13).symm.trans hg
      refine r_aload_n dX5_refusalOf_16 0 rfl ?_
      refine gf_X5_1 (v := .ref (a 4)) 0 rfl rfl qw_98 dX5_refusalOf_17 ?_
      refine gfN_X3_3 (v := .int (me 3)) 4 rfl rfl qw_75 dX5_refusalOf_20 ?_
      refine r_aload_n dX5_refusalOf_23 0 rfl ?_
      refine r_iload_n dX5_refusalOf_24 1 rfl ?_
      obtain ⟨o25, e25, hg⟩ := ob hg
      refine r_callV (As := [.int n1]) (rest := [.int (me 3)]) (ws' := wP Z a w er fl me p pr) 0 rfl rfl rfl (fun l => c_X5_priceOf Z l a w er fl me p pr n1 o25 e25) qw_224 mv_X5_priceOf (xPk.all rfl) ⟨Nat.le_of_ble_eq_true rfl, Nat.le_of_ble_eq_true rfl⟩ ⟨rfl, rfl⟩ ⟨Nat.zero_le _, Nat.zero_le _⟩ rfl (Nat.le_of_ble_eq_true rfl) rfl dX5_refusalOf_25 ?_
      refine r_iadd dX5_refusalOf_28 ?_
      refine r_ldc qw_228 dX5_refusalOf_29 ?_
      refine r_icmp_le (tgt := 37) dX5_refusalOf_31 (by decide) (fun h31 => ?_) (fun h31 => ?_)
      · replace hg := (if_pos h31).symm.trans hg
        refine r_aload_n dX5_refusalOf_37 0 rfl ?_
        refine gf_X5_1 (v := .ref (a 4)) 0 rfl rfl qw_98 dX5_refusalOf_38 ?_
        refine gfN_X3_5 (v := .int (me 5)) 4 rfl rfl qw_81 dX5_refusalOf_41 ?_
        refine r_iload_n dX5_refusalOf_44 1 rfl ?_
        obtain ⟨o45, e45, hg⟩ := ob hg
        refine r_callSN (As := [.int n1]) (rest := [.int (me 5)]) (ws' := wP Z a w er fl me p pr) (fun l => c_X6_lengthOf Z l   n1 o45 e45) qw_229 ms_X6_lengthOf xPk.none ⟨Nat.le_of_ble_eq_true rfl, Nat.le_of_ble_eq_true rfl⟩ ⟨rfl, rfl⟩ ⟨Nat.zero_le _, Nat.zero_le _⟩ rfl (Nat.le_of_ble_eq_true rfl) rfl dX5_refusalOf_45 ?_
        refine r_icmp_ge (tgt := 56) dX5_refusalOf_48 (by decide) (fun h48 => ?_) (fun h48 => ?_)
        · replace hg := (if_pos h48).symm.trans hg
          refine r_iconst (v := 0) dX5_refusalOf_56 kic_0 ?_
          exact r_iret (hE _ (Option.some.inj hg)) dX5_refusalOf_57
        · replace hg := (if_neg h48).symm.trans hg
          refine r_bipush (v := (-3)) dX5_refusalOf_51 kbp_m3 ?_
          refine r_goto (tgt := 57) dX5_refusalOf_53 (by decide) ?_
          exact r_iret (hE _ (Option.some.inj hg)) dX5_refusalOf_57
      · replace hg := (if_neg h31).symm.trans hg
        exact r_sub [] rfl (J34 hg)
  · replace hg := (if_pos h4).symm.trans hg
    refine r_iconst (v := (-1)) dX5_refusalOf_7 kic_m1 ?_
    exact r_iret (hE _ (Option.some.inj hg)) dX5_refusalOf_8

-- TicketJournal$Printer.losePower()V
abbrev rm_X5_losePower : Room := { frames := 1, cells := 0, slots := 0, locals := 20 }
def g_X5_losePower (me : Nat → Int32) (pr : Nat → Int32)  : Option ((Nat → Int32) × (Nat → Int32)) :=
  (g_X3_forget me).bind fun o9 => some (o9, (upd pr 0 0))
set_option maxHeartbeats 4000000 in
set_option maxRecDepth 100000 in
theorem c_X5_losePower (Z : GZ) (l : Launch) (a : Nat → Nat) (w : Nat → Int32) (er : Nat → Int32) (fl : Nat → Int32) (me : Nat → Int32) (p : Nat → Int32) (pr : Nat → Int32)  (o : ((Nat → Int32) × (Nat → Int32))) (hg : g_X5_losePower me pr = some o) : Con Z l yX5_losePower cX5_losePower 1 none rm_X5_losePower [.ref (a 0)] (wP Z a w er fl me p pr) none (wP Z a w er fl o.1 p o.2) := by
  refine Con.of (by decide) (Nat.le_of_ble_eq_true rfl) ?_
  intro X hE0
  have hE : ∀ z, z = o → endsX X Z none none (wP Z a w er fl z.1 p z.2) := by
    rintro _ rfl; exact hE0
  unfold g_X5_losePower at hg
  show AtK X Z rm_X5_losePower cX5_losePower RX5 1 0 0 (wP Z a w er fl me p pr) 0 [(0, .ref (a 0))] []
  refine r_aload_n dX5_losePower_0 0 rfl ?_
  refine r_iconst (v := 0) dX5_losePower_1 kic_0 ?_
  refine pf_X5_3 (by decide) 0 rfl (Nat.le_of_ble_eq_true rfl) qw_101 dX5_losePower_2 (ws' := wP Z a w er fl me p (upd pr 0 0)) rfl ?_
  refine r_aload_n dX5_losePower_5 0 rfl ?_
  refine gf_X5_1 (v := .ref (a 4)) 0 rfl rfl qw_98 dX5_losePower_6 ?_
  obtain ⟨o9, e9, hg⟩ := ob hg
  refine r_callV (As := []) (rest := []) (ws' := wP Z a w er fl o9 p (upd pr 0 0)) 0 rfl rfl rfl (fun l => c_X3_forget Z l (a 4) me  o9 e9) qw_299 mv_X3_forget (xPk.idx [4] rfl rfl rfl rfl rfl) ⟨Nat.le_of_ble_eq_true rfl, Nat.le_of_ble_eq_true rfl⟩ ⟨rfl, rfl⟩ ⟨Nat.zero_le _, Nat.zero_le _⟩ rfl (Nat.le_of_ble_eq_true rfl) rfl dX5_losePower_9 ?_
  exact r_vret (hE _ (Option.some.inj hg)) dX5_losePower_12

-- TicketJournal$Printer.wake()V
abbrev rm_X5_wake : Room := { frames := 5, cells := 0, slots := 0, locals := 114 }
def g_X5_wake (w : Nat → Int32) (me : Nat → Int32) (pr : Nat → Int32)  : Option ((Nat → Int32) × (Nat → Int32)) :=
  (g_X3_recall me w).bind fun o13 => some (o13, (upd pr 0 1))
set_option maxHeartbeats 4000000 in
set_option maxRecDepth 100000 in
theorem c_X5_wake (Z : GZ) (l : Launch) (a : Nat → Nat) (w : Nat → Int32) (er : Nat → Int32) (fl : Nat → Int32) (me : Nat → Int32) (p : Nat → Int32) (pr : Nat → Int32)  (o : ((Nat → Int32) × (Nat → Int32))) (hg : g_X5_wake w me pr = some o) : Con Z l yX5_wake cX5_wake 1 none rm_X5_wake [.ref (a 0)] (wP Z a w er fl me p pr) none (wP Z a w er fl o.1 p o.2) := by
  refine Con.of (by decide) (Nat.le_of_ble_eq_true rfl) ?_
  intro X hE0
  have hE : ∀ z, z = o → endsX X Z none none (wP Z a w er fl z.1 p z.2) := by
    rintro _ rfl; exact hE0
  unfold g_X5_wake at hg
  show AtK X Z rm_X5_wake cX5_wake RX5 1 0 0 (wP Z a w er fl me p pr) 0 [(0, .ref (a 0))] []
  refine r_aload_n dX5_wake_0 0 rfl ?_
  refine r_iconst (v := 1) dX5_wake_1 kic_1 ?_
  refine pf_X5_3 (by decide) 0 rfl (Nat.le_of_ble_eq_true rfl) qw_101 dX5_wake_2 (ws' := wP Z a w er fl me p (upd pr 0 1)) rfl ?_
  refine r_aload_n dX5_wake_5 0 rfl ?_
  refine gf_X5_1 (v := .ref (a 4)) 0 rfl rfl qw_98 dX5_wake_6 ?_
  refine r_aload_n dX5_wake_9 0 rfl ?_
  refine gf_X5_0 (v := .ref (a 1)) 0 rfl rfl qw_96 dX5_wake_10 ?_
  obtain ⟨o13, e13, hg⟩ := ob hg
  refine r_callV (As := [.ref (a 1)]) (rest := []) (ws' := wP Z a w er fl o13 p (upd pr 0 1)) 0 rfl rfl rfl (fun l => c_X3_recall Z l (a 4) (a 1) (a 2) (a 3) me w er fl  o13 e13) qw_413 mv_X3_recall (xPk.idx [4, 1, 2, 3] rfl rfl rfl rfl rfl) ⟨Nat.le_of_ble_eq_true rfl, Nat.le_of_ble_eq_true rfl⟩ ⟨rfl, rfl⟩ ⟨Nat.zero_le _, Nat.zero_le _⟩ rfl (Nat.le_of_ble_eq_true rfl) rfl dX5_wake_13 ?_
  exact r_vret (hE _ (Option.some.inj hg)) dX5_wake_16

-- TicketJournal$Printer.beginBlock()Z
abbrev rm_X5_beginBlock : Room := { frames := 2, cells := 0, slots := 0, locals := 44 }
def g_X5_beginBlock_208   (x4 : Int32) (w : Nat → Int32) (er : Nat → Int32) (fl : Nat → Int32) (me : Nat → Int32) : Option (Int32 × (Nat → Int32) × (Nat → Int32) × (Nat → Int32) × (Nat → Int32)) :=
  (if ¬ (x4 = 0 ∨ x4 = 1) then none else some (x4, w, er, fl, me))
def g_X5_beginBlock_185   (x1 : Int32) (t0 : Int32) (w : Nat → Int32) (er : Nat → Int32) (fl : Nat → Int32) (me : Nat → Int32) : Option (Int32 × (Nat → Int32) × (Nat → Int32) × (Nat → Int32) × (Nat → Int32)) :=
  (if t0 = 0 then g_X5_beginBlock_208 t0 w er fl me else g_X5_beginBlock_208 t0 w er fl (upd (upd me 0 x1) 1 0))
def g_X5_beginBlock_184   (x1 : Int32) (w : Nat → Int32) (er : Nat → Int32) (fl : Nat → Int32) (me : Nat → Int32) : Option (Int32 × (Nat → Int32) × (Nat → Int32) × (Nat → Int32) × (Nat → Int32)) :=
  g_X5_beginBlock_185 x1 0 w er fl me
def g_X5_beginBlock (w : Nat → Int32) (er : Nat → Int32) (fl : Nat → Int32) (me : Nat → Int32)  : Option (Int32 × (Nat → Int32) × (Nat → Int32) × (Nat → Int32) × (Nat → Int32)) :=
  (g_X0_read w (me 0) 0).bind fun o24 => (g_X6_headerCheck (jrem (o24 + 1) 10000) (me 3) (me 4) (me 5) (me 2)).bind fun o63 => (g_X0_erase w er fl (jrem ((me 0) + 1) 5)).bind fun o72 => (if o72.1 = 0 then g_X5_beginBlock_184 (jrem ((me 0) + 1) 5) o72.2.1 o72.2.2.1 o72.2.2.2 me else (g_X0_write o72.2.1 o72.2.2.2 (jrem ((me 0) + 1) 5) 0 (jrem (o24 + 1) 10000)).bind fun o85 => (if o85.1 = 0 then g_X5_beginBlock_184 (jrem ((me 0) + 1) 5) o85.2.1 o72.2.2.1 o85.2.2 me else (g_X0_write o85.2.1 o85.2.2 (jrem ((me 0) + 1) 5) 1 (me 3)).bind fun o104 => (if o104.1 = 0 then g_X5_beginBlock_184 (jrem ((me 0) + 1) 5) o104.2.1 o72.2.2.1 o104.2.2 me else (g_X0_write o104.2.1 o104.2.2 (jrem ((me 0) + 1) 5) 2 (me 4)).bind fun o123 => (if o123.1 = 0 then g_X5_beginBlock_184 (jrem ((me 0) + 1) 5) o123.2.1 o72.2.2.1 o123.2.2 me else (g_X0_write o123.2.1 o123.2.2 (jrem ((me 0) + 1) 5) 3 (me 5)).bind fun o142 => (if o142.1 = 0 then g_X5_beginBlock_184 (jrem ((me 0) + 1) 5) o142.2.1 o72.2.2.1 o142.2.2 me else (g_X0_write o142.2.1 o142.2.2 (jrem ((me 0) + 1) 5) 4 (me 2)).bind fun o161 => (if o161.1 = 0 then g_X5_beginBlock_184 (jrem ((me 0) + 1) 5) o161.2.1 o72.2.2.1 o161.2.2 me else (g_X0_write o161.2.1 o161.2.2 (jrem ((me 0) + 1) 5) 5 o63).bind fun o174 => (if o174.1 = 0 then g_X5_beginBlock_184 (jrem ((me 0) + 1) 5) o174.2.1 o72.2.2.1 o174.2.2 me else g_X5_beginBlock_185 (jrem ((me 0) + 1) 5) 1 o174.2.1 o72.2.2.1 o174.2.2 me)))))))
set_option maxHeartbeats 4000000 in
set_option maxRecDepth 100000 in
theorem c_X5_beginBlock (Z : GZ) (l : Launch) (a : Nat → Nat) (w : Nat → Int32) (er : Nat → Int32) (fl : Nat → Int32) (me : Nat → Int32) (p : Nat → Int32) (pr : Nat → Int32)  (o : (Int32 × (Nat → Int32) × (Nat → Int32) × (Nat → Int32) × (Nat → Int32))) (hg : g_X5_beginBlock w er fl me = some o) : Con Z l yX5_beginBlock cX5_beginBlock 5 (some .boolean) rm_X5_beginBlock [.ref (a 0)] (wP Z a w er fl me p pr) (some (.int o.1)) (wP Z a o.2.1 o.2.2.1 o.2.2.2.1 o.2.2.2.2 p pr) := by
  refine Con.of (by decide) (Nat.le_of_ble_eq_true rfl) ?_
  intro X hE0
  have hE : ∀ z, z = o → endsX X Z (some .boolean) (some (.int z.1)) (wP Z a z.2.1 z.2.2.1 z.2.2.2.1 z.2.2.2.2 p pr) := by
    rintro _ rfl; exact hE0
  have J208 : ∀ (x4 : Int32) (w : Nat → Int32) (er : Nat → Int32) (fl : Nat → Int32) (me : Nat → Int32), g_X5_beginBlock_208 x4 w er fl me = some o → AtK X Z rm_X5_beginBlock cX5_beginBlock RX5 5 0 0 (wP Z a w er fl me p pr) 208 [(4, .int x4)] [] := by
    intro x4 w er fl me hg
    unfold g_X5_beginBlock_208 at hg
    refine r_iload dX5_beginBlock_208 0 rfl ?_
    obtain ⟨hz210, hg⟩ := og hg
    exact r_bret (hE _ (Option.some.inj hg)) (Decidable.not_not.mp hz210) dX5_beginBlock_210
  have J185 : ∀ (x1 : Int32) (t0 : Int32) (w : Nat → Int32) (er : Nat → Int32) (fl : Nat → Int32) (me : Nat → Int32), g_X5_beginBlock_185 x1 t0 w er fl me = some o → AtK X Z rm_X5_beginBlock cX5_beginBlock RX5 5 0 0 (wP Z a w er fl me p pr) 185 [(0, .ref (a 0)), (1, .int x1)] [.int t0] := by
    intro x1 t0 w er fl me hg
    unfold g_X5_beginBlock_185 at hg
    refine r_istore (lv' := [(4, .int t0), (0, .ref (a 0)), (1, .int x1)]) dX5_beginBlock_185 (by decide) rfl ?_
    refine r_iload dX5_beginBlock_187 0 rfl ?_
    refine r_if_eq (tgt := 208) dX5_beginBlock_189 (by decide) (fun h189 => ?_) (fun h189 => ?_)
    · replace hg := (if_pos h189).symm.trans hg
      exact r_sub [0] rfl (J208 t0 w er fl me hg)
    · replace hg := (if_neg h189).symm.trans hg
      refine r_aload_n dX5_beginBlock_192 1 rfl ?_
      refine gf_X5_1 (v := .ref (a 4)) 0 rfl rfl qw_98 dX5_beginBlock_193 ?_
      refine r_iload_n dX5_beginBlock_196 2 rfl ?_
      refine pfN_X3_0 4 rfl (Nat.le_of_ble_eq_true rfl) qw_66 dX5_beginBlock_197 (ws' := wP Z a w er fl (upd me 0 x1) p pr) rfl ?_
      refine r_aload_n dX5_beginBlock_200 1 rfl ?_
      refine gf_X5_1 (v := .ref (a 4)) 0 rfl rfl qw_98 dX5_beginBlock_201 ?_
      refine r_iconst (v := 0) dX5_beginBlock_204 kic_0 ?_
      refine pfN_X3_1 4 rfl (Nat.le_of_ble_eq_true rfl) qw_69 dX5_beginBlock_205 (ws' := wP Z a w er fl (upd (upd me 0 x1) 1 0) p pr) rfl ?_
      exact r_sub [0] rfl (J208 t0 w er fl (upd (upd me 0 x1) 1 0) hg)
  have J184 : ∀ (x1 : Int32) (w : Nat → Int32) (er : Nat → Int32) (fl : Nat → Int32) (me : Nat → Int32), g_X5_beginBlock_184 x1 w er fl me = some o → AtK X Z rm_X5_beginBlock cX5_beginBlock RX5 5 0 0 (wP Z a w er fl me p pr) 184 [(0, .ref (a 0)), (1, .int x1)] [] := by
    intro x1 w er fl me hg
    unfold g_X5_beginBlock_184 at hg
    refine r_iconst (v := 0) dX5_beginBlock_184 kic_0 ?_
    exact r_sub [0, 1] rfl (J185 x1 0 w er fl me hg)
  unfold g_X5_beginBlock at hg
  show AtK X Z rm_X5_beginBlock cX5_beginBlock RX5 5 0 0 (wP Z a w er fl me p pr) 0 [(0, .ref (a 0))] []
  refine r_aload_n dX5_beginBlock_0 0 rfl ?_
  refine gf_X5_1 (v := .ref (a 4)) 0 rfl rfl qw_98 dX5_beginBlock_1 ?_
  refine gfN_X3_0 (v := .int (me 0)) 4 rfl rfl qw_66 dX5_beginBlock_4 ?_
  refine r_iconst (v := 1) dX5_beginBlock_7 kic_1 ?_
  refine r_iadd dX5_beginBlock_8 ?_
  refine r_iconst (v := 5) dX5_beginBlock_9 kic_5 ?_
  refine r_irem dX5_beginBlock_10 (by decide) ?_
  refine r_istore_n (lv' := [(1, .int (jrem ((me 0) + 1) 5)), (0, .ref (a 0))]) dX5_beginBlock_11 (by decide) rfl ?_
  refine r_aload_n dX5_beginBlock_12 1 rfl ?_
  refine gf_X5_0 (v := .ref (a 1)) 0 rfl rfl qw_96 dX5_beginBlock_13 ?_
  refine r_aload_n dX5_beginBlock_16 1 rfl ?_
  refine gf_X5_1 (v := .ref (a 4)) 0 rfl rfl qw_98 dX5_beginBlock_17 ?_
  refine gfN_X3_0 (v := .int (me 0)) 4 rfl rfl qw_66 dX5_beginBlock_20 ?_
  refine r_iconst (v := 0) dX5_beginBlock_23 kic_0 ?_
  obtain ⟨o24, e24, hg⟩ := ob hg
  refine r_callV (As := [.int (me 0), .int 0]) (rest := []) (ws' := wP Z a w er fl me p pr) 0 rfl rfl rfl (fun l => c_X0_read Z l (a 1) (a 2) (a 3) w er fl (me 0) 0 o24 e24) qw_268 mv_X0_read (xPk.idx [1, 2, 3] rfl rfl rfl rfl rfl) ⟨Nat.le_of_ble_eq_true rfl, Nat.le_of_ble_eq_true rfl⟩ ⟨rfl, rfl⟩ ⟨Nat.zero_le _, Nat.zero_le _⟩ rfl (Nat.le_of_ble_eq_true rfl) rfl dX5_beginBlock_24 ?_
  refine r_iconst (v := 1) dX5_beginBlock_27 kic_1 ?_
  refine r_iadd dX5_beginBlock_28 ?_
  refine r_sipush (v := 10000) dX5_beginBlock_29 ksp_10000 ?_
  refine r_irem dX5_beginBlock_32 (by decide) ?_
  refine r_istore_n (lv' := [(2, .int (jrem (o24 + 1) 10000)), (1, .int (jrem ((me 0) + 1) 5)), (0, .ref (a 0))]) dX5_beginBlock_33 (by decide) rfl ?_
  refine r_iload_n dX5_beginBlock_34 0 rfl ?_
  refine r_aload_n dX5_beginBlock_35 2 rfl ?_
  refine gf_X5_1 (v := .ref (a 4)) 0 rfl rfl qw_98 dX5_beginBlock_36 ?_
  refine gfN_X3_3 (v := .int (me 3)) 4 rfl rfl qw_75 dX5_beginBlock_39 ?_
  refine r_aload_n dX5_beginBlock_42 2 rfl ?_
  refine gf_X5_1 (v := .ref (a 4)) 0 rfl rfl qw_98 dX5_beginBlock_43 ?_
  refine gfN_X3_4 (v := .int (me 4)) 4 rfl rfl qw_79 dX5_beginBlock_46 ?_
  refine r_aload_n dX5_beginBlock_49 2 rfl ?_
  refine gf_X5_1 (v := .ref (a 4)) 0 rfl rfl qw_98 dX5_beginBlock_50 ?_
  refine gfN_X3_5 (v := .int (me 5)) 4 rfl rfl qw_81 dX5_beginBlock_53 ?_
  refine r_aload_n dX5_beginBlock_56 2 rfl ?_
  refine gf_X5_1 (v := .ref (a 4)) 0 rfl rfl qw_98 dX5_beginBlock_57 ?_
  refine gfN_X3_2 (v := .int (me 2)) 4 rfl rfl qw_72 dX5_beginBlock_60 ?_
  obtain ⟨o63, e63, hg⟩ := ob hg
  refine r_callSN (As := [.int (jrem (o24 + 1) 10000), .int (me 3), .int (me 4), .int (me 5), .int (me 2)]) (rest := []) (ws' := wP Z a w er fl me p pr) (fun l => c_X6_headerCheck Z l   (jrem (o24 + 1) 10000) (me 3) (me 4) (me 5) (me 2) o63 e63) qw_272 ms_X6_headerCheck xPk.none ⟨Nat.le_of_ble_eq_true rfl, Nat.le_of_ble_eq_true rfl⟩ ⟨rfl, rfl⟩ ⟨Nat.zero_le _, Nat.zero_le _⟩ rfl (Nat.le_of_ble_eq_true rfl) rfl dX5_beginBlock_63 ?_
  refine r_istore_n (lv' := [(3, .int o63), (2, .int (jrem (o24 + 1) 10000)), (1, .int (jrem ((me 0) + 1) 5)), (0, .ref (a 0))]) dX5_beginBlock_66 (by decide) rfl ?_
  refine r_aload_n dX5_beginBlock_67 3 rfl ?_
  refine gf_X5_0 (v := .ref (a 1)) 0 rfl rfl qw_96 dX5_beginBlock_68 ?_
  refine r_iload_n dX5_beginBlock_71 2 rfl ?_
  obtain ⟨o72, e72, hg⟩ := ob hg
  refine r_callV (As := [.int (jrem ((me 0) + 1) 5)]) (rest := []) (ws' := wP Z a o72.2.1 o72.2.2.1 o72.2.2.2 me p pr) 0 rfl rfl rfl (fun l => c_X0_erase Z l (a 1) (a 2) (a 3) w er fl (jrem ((me 0) + 1) 5) o72 e72) qw_276 mv_X0_erase (xPk.idx [1, 2, 3] rfl rfl rfl rfl rfl) ⟨Nat.le_of_ble_eq_true rfl, Nat.le_of_ble_eq_true rfl⟩ ⟨rfl, rfl⟩ ⟨Nat.zero_le _, Nat.zero_le _⟩ rfl (Nat.le_of_ble_eq_true rfl) rfl dX5_beginBlock_72 ?_
  refine r_if_eq (tgt := 184) dX5_beginBlock_75 (by decide) (fun h75 => ?_) (fun h75 => ?_)
  · replace hg := (if_pos h75).symm.trans hg
    exact r_sub [3, 2] rfl (J184 (jrem ((me 0) + 1) 5) o72.2.1 o72.2.2.1 o72.2.2.2 me hg)
  · replace hg := (if_neg h75).symm.trans hg
    refine r_aload_n dX5_beginBlock_78 3 rfl ?_
    refine gf_X5_0 (v := .ref (a 1)) 0 rfl rfl qw_96 dX5_beginBlock_79 ?_
    refine r_iload_n dX5_beginBlock_82 2 rfl ?_
    refine r_iconst (v := 0) dX5_beginBlock_83 kic_0 ?_
    refine r_iload_n dX5_beginBlock_84 1 rfl ?_
    obtain ⟨o85, e85, hg⟩ := ob hg
    refine r_callV (As := [.int (jrem ((me 0) + 1) 5), .int 0, .int (jrem (o24 + 1) 10000)]) (rest := []) (ws' := wP Z a o85.2.1 o72.2.2.1 o85.2.2 me p pr) 0 rfl rfl rfl (fun l => c_X0_write Z l (a 1) (a 2) (a 3) o72.2.1 o72.2.2.1 o72.2.2.2 (jrem ((me 0) + 1) 5) 0 (jrem (o24 + 1) 10000) o85 e85) qw_284 mv_X0_write (xPk.idx [1, 2, 3] rfl rfl rfl rfl rfl) ⟨Nat.le_of_ble_eq_true rfl, Nat.le_of_ble_eq_true rfl⟩ ⟨rfl, rfl⟩ ⟨Nat.zero_le _, Nat.zero_le _⟩ rfl (Nat.le_of_ble_eq_true rfl) rfl dX5_beginBlock_85 ?_
    refine r_if_eq (tgt := 184) dX5_beginBlock_88 (by decide) (fun h88 => ?_) (fun h88 => ?_)
    · replace hg := (if_pos h88).symm.trans hg
      exact r_sub [3, 2] rfl (J184 (jrem ((me 0) + 1) 5) o85.2.1 o72.2.2.1 o85.2.2 me hg)
    · replace hg := (if_neg h88).symm.trans hg
      refine r_aload_n dX5_beginBlock_91 3 rfl ?_
      refine gf_X5_0 (v := .ref (a 1)) 0 rfl rfl qw_96 dX5_beginBlock_92 ?_
      refine r_iload_n dX5_beginBlock_95 2 rfl ?_
      refine r_iconst (v := 1) dX5_beginBlock_96 kic_1 ?_
      refine r_aload_n dX5_beginBlock_97 3 rfl ?_
      refine gf_X5_1 (v := .ref (a 4)) 0 rfl rfl qw_98 dX5_beginBlock_98 ?_
      refine gfN_X3_3 (v := .int (me 3)) 4 rfl rfl qw_75 dX5_beginBlock_101 ?_
      obtain ⟨o104, e104, hg⟩ := ob hg
      refine r_callV (As := [.int (jrem ((me 0) + 1) 5), .int 1, .int (me 3)]) (rest := []) (ws' := wP Z a o104.2.1 o72.2.2.1 o104.2.2 me p pr) 0 rfl rfl rfl (fun l => c_X0_write Z l (a 1) (a 2) (a 3) o85.2.1 o72.2.2.1 o85.2.2 (jrem ((me 0) + 1) 5) 1 (me 3) o104 e104) qw_284 mv_X0_write (xPk.idx [1, 2, 3] rfl rfl rfl rfl rfl) ⟨Nat.le_of_ble_eq_true rfl, Nat.le_of_ble_eq_true rfl⟩ ⟨rfl, rfl⟩ ⟨Nat.zero_le _, Nat.zero_le _⟩ rfl (Nat.le_of_ble_eq_true rfl) rfl dX5_beginBlock_104 ?_
      refine r_if_eq (tgt := 184) dX5_beginBlock_107 (by decide) (fun h107 => ?_) (fun h107 => ?_)
      · replace hg := (if_pos h107).symm.trans hg
        exact r_sub [3, 2] rfl (J184 (jrem ((me 0) + 1) 5) o104.2.1 o72.2.2.1 o104.2.2 me hg)
      · replace hg := (if_neg h107).symm.trans hg
        refine r_aload_n dX5_beginBlock_110 3 rfl ?_
        refine gf_X5_0 (v := .ref (a 1)) 0 rfl rfl qw_96 dX5_beginBlock_111 ?_
        refine r_iload_n dX5_beginBlock_114 2 rfl ?_
        refine r_iconst (v := 2) dX5_beginBlock_115 kic_2 ?_
        refine r_aload_n dX5_beginBlock_116 3 rfl ?_
        refine gf_X5_1 (v := .ref (a 4)) 0 rfl rfl qw_98 dX5_beginBlock_117 ?_
        refine gfN_X3_4 (v := .int (me 4)) 4 rfl rfl qw_79 dX5_beginBlock_120 ?_
        obtain ⟨o123, e123, hg⟩ := ob hg
        refine r_callV (As := [.int (jrem ((me 0) + 1) 5), .int 2, .int (me 4)]) (rest := []) (ws' := wP Z a o123.2.1 o72.2.2.1 o123.2.2 me p pr) 0 rfl rfl rfl (fun l => c_X0_write Z l (a 1) (a 2) (a 3) o104.2.1 o72.2.2.1 o104.2.2 (jrem ((me 0) + 1) 5) 2 (me 4) o123 e123) qw_284 mv_X0_write (xPk.idx [1, 2, 3] rfl rfl rfl rfl rfl) ⟨Nat.le_of_ble_eq_true rfl, Nat.le_of_ble_eq_true rfl⟩ ⟨rfl, rfl⟩ ⟨Nat.zero_le _, Nat.zero_le _⟩ rfl (Nat.le_of_ble_eq_true rfl) rfl dX5_beginBlock_123 ?_
        refine r_if_eq (tgt := 184) dX5_beginBlock_126 (by decide) (fun h126 => ?_) (fun h126 => ?_)
        · replace hg := (if_pos h126).symm.trans hg
          exact r_sub [3, 2] rfl (J184 (jrem ((me 0) + 1) 5) o123.2.1 o72.2.2.1 o123.2.2 me hg)
        · replace hg := (if_neg h126).symm.trans hg
          refine r_aload_n dX5_beginBlock_129 3 rfl ?_
          refine gf_X5_0 (v := .ref (a 1)) 0 rfl rfl qw_96 dX5_beginBlock_130 ?_
          refine r_iload_n dX5_beginBlock_133 2 rfl ?_
          refine r_iconst (v := 3) dX5_beginBlock_134 kic_3 ?_
          refine r_aload_n dX5_beginBlock_135 3 rfl ?_
          refine gf_X5_1 (v := .ref (a 4)) 0 rfl rfl qw_98 dX5_beginBlock_136 ?_
          refine gfN_X3_5 (v := .int (me 5)) 4 rfl rfl qw_81 dX5_beginBlock_139 ?_
          obtain ⟨o142, e142, hg⟩ := ob hg
          refine r_callV (As := [.int (jrem ((me 0) + 1) 5), .int 3, .int (me 5)]) (rest := []) (ws' := wP Z a o142.2.1 o72.2.2.1 o142.2.2 me p pr) 0 rfl rfl rfl (fun l => c_X0_write Z l (a 1) (a 2) (a 3) o123.2.1 o72.2.2.1 o123.2.2 (jrem ((me 0) + 1) 5) 3 (me 5) o142 e142) qw_284 mv_X0_write (xPk.idx [1, 2, 3] rfl rfl rfl rfl rfl) ⟨Nat.le_of_ble_eq_true rfl, Nat.le_of_ble_eq_true rfl⟩ ⟨rfl, rfl⟩ ⟨Nat.zero_le _, Nat.zero_le _⟩ rfl (Nat.le_of_ble_eq_true rfl) rfl dX5_beginBlock_142 ?_
          refine r_if_eq (tgt := 184) dX5_beginBlock_145 (by decide) (fun h145 => ?_) (fun h145 => ?_)
          · replace hg := (if_pos h145).symm.trans hg
            exact r_sub [3, 2] rfl (J184 (jrem ((me 0) + 1) 5) o142.2.1 o72.2.2.1 o142.2.2 me hg)
          · replace hg := (if_neg h145).symm.trans hg
            refine r_aload_n dX5_beginBlock_148 3 rfl ?_
            refine gf_X5_0 (v := .ref (a 1)) 0 rfl rfl qw_96 dX5_beginBlock_149 ?_
            refine r_iload_n dX5_beginBlock_152 2 rfl ?_
            refine r_iconst (v := 4) dX5_beginBlock_153 kic_4 ?_
            refine r_aload_n dX5_beginBlock_154 3 rfl ?_
            refine gf_X5_1 (v := .ref (a 4)) 0 rfl rfl qw_98 dX5_beginBlock_155 ?_
            refine gfN_X3_2 (v := .int (me 2)) 4 rfl rfl qw_72 dX5_beginBlock_158 ?_
            obtain ⟨o161, e161, hg⟩ := ob hg
            refine r_callV (As := [.int (jrem ((me 0) + 1) 5), .int 4, .int (me 2)]) (rest := []) (ws' := wP Z a o161.2.1 o72.2.2.1 o161.2.2 me p pr) 0 rfl rfl rfl (fun l => c_X0_write Z l (a 1) (a 2) (a 3) o142.2.1 o72.2.2.1 o142.2.2 (jrem ((me 0) + 1) 5) 4 (me 2) o161 e161) qw_284 mv_X0_write (xPk.idx [1, 2, 3] rfl rfl rfl rfl rfl) ⟨Nat.le_of_ble_eq_true rfl, Nat.le_of_ble_eq_true rfl⟩ ⟨rfl, rfl⟩ ⟨Nat.zero_le _, Nat.zero_le _⟩ rfl (Nat.le_of_ble_eq_true rfl) rfl dX5_beginBlock_161 ?_
            refine r_if_eq (tgt := 184) dX5_beginBlock_164 (by decide) (fun h164 => ?_) (fun h164 => ?_)
            · replace hg := (if_pos h164).symm.trans hg
              exact r_sub [3, 2] rfl (J184 (jrem ((me 0) + 1) 5) o161.2.1 o72.2.2.1 o161.2.2 me hg)
            · replace hg := (if_neg h164).symm.trans hg
              refine r_aload_n dX5_beginBlock_167 3 rfl ?_
              refine gf_X5_0 (v := .ref (a 1)) 0 rfl rfl qw_96 dX5_beginBlock_168 ?_
              refine r_iload_n dX5_beginBlock_171 2 rfl ?_
              refine r_iconst (v := 5) dX5_beginBlock_172 kic_5 ?_
              refine r_iload_n dX5_beginBlock_173 0 rfl ?_
              obtain ⟨o174, e174, hg⟩ := ob hg
              refine r_callV (As := [.int (jrem ((me 0) + 1) 5), .int 5, .int o63]) (rest := []) (ws' := wP Z a o174.2.1 o72.2.2.1 o174.2.2 me p pr) 0 rfl rfl rfl (fun l => c_X0_write Z l (a 1) (a 2) (a 3) o161.2.1 o72.2.2.1 o161.2.2 (jrem ((me 0) + 1) 5) 5 o63 o174 e174) qw_284 mv_X0_write (xPk.idx [1, 2, 3] rfl rfl rfl rfl rfl) ⟨Nat.le_of_ble_eq_true rfl, Nat.le_of_ble_eq_true rfl⟩ ⟨rfl, rfl⟩ ⟨Nat.zero_le _, Nat.zero_le _⟩ rfl (Nat.le_of_ble_eq_true rfl) rfl dX5_beginBlock_174 ?_
              refine r_if_eq (tgt := 184) dX5_beginBlock_177 (by decide) (fun h177 => ?_) (fun h177 => ?_)
              · replace hg := (if_pos h177).symm.trans hg
                exact r_sub [3, 2] rfl (J184 (jrem ((me 0) + 1) 5) o174.2.1 o72.2.2.1 o174.2.2 me hg)
              · replace hg := (if_neg h177).symm.trans hg
                refine r_iconst (v := 1) dX5_beginBlock_180 kic_1 ?_
                refine r_goto (tgt := 185) dX5_beginBlock_181 (by decide) ?_
                exact r_sub [3, 2] rfl (J185 (jrem ((me 0) + 1) 5) 1 o174.2.1 o72.2.2.1 o174.2.2 me hg)

-- TicketJournal$Printer.fillPlace(III)Z
abbrev rm_X5_fillPlace : Room := { frames := 2, cells := 0, slots := 0, locals := 44 }
def g_X5_fillPlace_112 (me : Nat → Int32)  (w : Nat → Int32) (fl : Nat → Int32) : Option (Int32 × (Nat → Int32) × (Nat → Int32)) :=
  some (0, w, fl)
def g_X5_fillPlace (w : Nat → Int32) (fl : Nat → Int32) (me : Nat → Int32) (n1 : Int32) (n2 : Int32) (n3 : Int32) : Option (Int32 × (Nat → Int32) × (Nat → Int32)) :=
  (g_X0_read w (me 0) 0).bind fun o33 => (g_X6_recordCheck n1 n2 n3 o33).bind fun o36 => (g_X0_write w fl (me 0) (6 + ((me 1) * 4)) n1).bind fun o50 => (if o50.1 = 0 then g_X5_fillPlace_112 me o50.2.1 o50.2.2 else (g_X0_write o50.2.1 o50.2.2 (me 0) ((6 + ((me 1) * 4)) + 1) n2).bind fun o67 => (if o67.1 = 0 then g_X5_fillPlace_112 me o67.2.1 o67.2.2 else (g_X0_write o67.2.1 o67.2.2 (me 0) ((6 + ((me 1) * 4)) + 2) n3).bind fun o84 => (if o84.1 = 0 then g_X5_fillPlace_112 me o84.2.1 o84.2.2 else (g_X0_write o84.2.1 o84.2.2 (me 0) ((6 + ((me 1) * 4)) + 3) o36).bind fun o102 => (if o102.1 = 0 then g_X5_fillPlace_112 me o102.2.1 o102.2.2 else some (1, o102.2.1, o102.2.2)))))
set_option maxHeartbeats 4000000 in
set_option maxRecDepth 100000 in
theorem c_X5_fillPlace (Z : GZ) (l : Launch) (a : Nat → Nat) (w : Nat → Int32) (er : Nat → Int32) (fl : Nat → Int32) (me : Nat → Int32) (p : Nat → Int32) (pr : Nat → Int32) (n1 : Int32) (n2 : Int32) (n3 : Int32) (o : (Int32 × (Nat → Int32) × (Nat → Int32))) (hg : g_X5_fillPlace w fl me n1 n2 n3 = some o) : Con Z l yX5_fillPlace cX5_fillPlace 7 (some .boolean) rm_X5_fillPlace [.ref (a 0), .int n1, .int n2, .int n3] (wP Z a w er fl me p pr) (some (.int o.1)) (wP Z a o.2.1 er o.2.2 me p pr) := by
  refine Con.of (by decide) (Nat.le_of_ble_eq_true rfl) ?_
  intro X hE0
  have hE : ∀ z, z = o → endsX X Z (some .boolean) (some (.int z.1)) (wP Z a z.2.1 er z.2.2 me p pr) := by
    rintro _ rfl; exact hE0
  have J112 : ∀ (w : Nat → Int32) (fl : Nat → Int32), g_X5_fillPlace_112 me w fl = some o → AtK X Z rm_X5_fillPlace cX5_fillPlace RX5 7 0 0 (wP Z a w er fl me p pr) 112 [] [] := by
    intro w fl hg
    unfold g_X5_fillPlace_112 at hg
    refine r_iconst (v := 0) dX5_fillPlace_112 kic_0 ?_
    exact r_bret (hE _ (Option.some.inj hg)) (by decide) dX5_fillPlace_113
  unfold g_X5_fillPlace at hg
  show AtK X Z rm_X5_fillPlace cX5_fillPlace RX5 7 0 0 (wP Z a w er fl me p pr) 0 [(0, .ref (a 0)), (1, .int n1), (2, .int n2), (3, .int n3)] []
  refine r_aload_n dX5_fillPlace_0 0 rfl ?_
  refine gf_X5_1 (v := .ref (a 4)) 0 rfl rfl qw_98 dX5_fillPlace_1 ?_
  refine gfN_X3_0 (v := .int (me 0)) 4 rfl rfl qw_66 dX5_fillPlace_4 ?_
  refine r_istore (lv' := [(4, .int (me 0)), (0, .ref (a 0)), (1, .int n1), (2, .int n2), (3, .int n3)]) dX5_fillPlace_7 (by decide) rfl ?_
  refine r_bipush (v := 6) dX5_fillPlace_9 kbp_6 ?_
  refine r_aload_n dX5_fillPlace_11 1 rfl ?_
  refine gf_X5_1 (v := .ref (a 4)) 0 rfl rfl qw_98 dX5_fillPlace_12 ?_
  refine gfN_X3_1 (v := .int (me 1)) 4 rfl rfl qw_69 dX5_fillPlace_15 ?_
  refine r_iconst (v := 4) dX5_fillPlace_18 kic_4 ?_
  refine r_imul dX5_fillPlace_19 ?_
  refine r_iadd dX5_fillPlace_20 ?_
  refine r_istore (lv' := [(5, .int (6 + ((me 1) * 4))), (4, .int (me 0)), (0, .ref (a 0)), (1, .int n1), (2, .int n2), (3, .int n3)]) dX5_fillPlace_21 (by decide) rfl ?_
  refine r_iload_n dX5_fillPlace_23 3 rfl ?_
  refine r_iload_n dX5_fillPlace_24 4 rfl ?_
  refine r_iload_n dX5_fillPlace_25 5 rfl ?_
  refine r_aload_n dX5_fillPlace_26 2 rfl ?_
  refine gf_X5_0 (v := .ref (a 1)) 0 rfl rfl qw_96 dX5_fillPlace_27 ?_
  refine r_iload dX5_fillPlace_30 1 rfl ?_
  refine r_iconst (v := 0) dX5_fillPlace_32 kic_0 ?_
  obtain ⟨o33, e33, hg⟩ := ob hg
  refine r_callV (As := [.int (me 0), .int 0]) (rest := [.int n3, .int n2, .int n1]) (ws' := wP Z a w er fl me p pr) 0 rfl rfl rfl (fun l => c_X0_read Z l (a 1) (a 2) (a 3) w er fl (me 0) 0 o33 e33) qw_268 mv_X0_read (xPk.idx [1, 2, 3] rfl rfl rfl rfl rfl) ⟨Nat.le_of_ble_eq_true rfl, Nat.le_of_ble_eq_true rfl⟩ ⟨rfl, rfl⟩ ⟨Nat.zero_le _, Nat.zero_le _⟩ rfl (Nat.le_of_ble_eq_true rfl) rfl dX5_fillPlace_33 ?_
  obtain ⟨o36, e36, hg⟩ := ob hg
  refine r_callSN (As := [.int n1, .int n2, .int n3, .int o33]) (rest := []) (ws' := wP Z a w er fl me p pr) (fun l => c_X6_recordCheck Z l   n1 n2 n3 o33 o36 e36) qw_292 ms_X6_recordCheck xPk.none ⟨Nat.le_of_ble_eq_true rfl, Nat.le_of_ble_eq_true rfl⟩ ⟨rfl, rfl⟩ ⟨Nat.zero_le _, Nat.zero_le _⟩ rfl (Nat.le_of_ble_eq_true rfl) rfl dX5_fillPlace_36 ?_
  refine r_istore (lv' := [(6, .int o36), (5, .int (6 + ((me 1) * 4))), (4, .int (me 0)), (0, .ref (a 0)), (1, .int n1), (2, .int n2), (3, .int n3)]) dX5_fillPlace_39 (by decide) rfl ?_
  refine r_aload_n dX5_fillPlace_41 3 rfl ?_
  refine gf_X5_0 (v := .ref (a 1)) 0 rfl rfl qw_96 dX5_fillPlace_42 ?_
  refine r_iload dX5_fillPlace_45 2 rfl ?_
  refine r_iload dX5_fillPlace_47 1 rfl ?_
  refine r_iload_n dX5_fillPlace_49 4 rfl ?_
  obtain ⟨o50, e50, hg⟩ := ob hg
  refine r_callV (As := [.int (me 0), .int (6 + ((me 1) * 4)), .int n1]) (rest := []) (ws' := wP Z a o50.2.1 er o50.2.2 me p pr) 0 rfl rfl rfl (fun l => c_X0_write Z l (a 1) (a 2) (a 3) w er fl (me 0) (6 + ((me 1) * 4)) n1 o50 e50) qw_284 mv_X0_write (xPk.idx [1, 2, 3] rfl rfl rfl rfl rfl) ⟨Nat.le_of_ble_eq_true rfl, Nat.le_of_ble_eq_true rfl⟩ ⟨rfl, rfl⟩ ⟨Nat.zero_le _, Nat.zero_le _⟩ rfl (Nat.le_of_ble_eq_true rfl) rfl dX5_fillPlace_50 ?_
  refine r_if_eq (tgt := 112) dX5_fillPlace_53 (by decide) (fun h53 => ?_) (fun h53 => ?_)
  · replace hg := (if_pos h53).symm.trans hg
    exact r_sub [] rfl (J112 o50.2.1 o50.2.2 hg)
  · replace hg := (if_neg h53).symm.trans hg
    refine r_aload_n dX5_fillPlace_56 3 rfl ?_
    refine gf_X5_0 (v := .ref (a 1)) 0 rfl rfl qw_96 dX5_fillPlace_57 ?_
    refine r_iload dX5_fillPlace_60 2 rfl ?_
    refine r_iload dX5_fillPlace_62 1 rfl ?_
    refine r_iconst (v := 1) dX5_fillPlace_64 kic_1 ?_
    refine r_iadd dX5_fillPlace_65 ?_
    refine r_iload_n dX5_fillPlace_66 5 rfl ?_
    obtain ⟨o67, e67, hg⟩ := ob hg
    refine r_callV (As := [.int (me 0), .int ((6 + ((me 1) * 4)) + 1), .int n2]) (rest := []) (ws' := wP Z a o67.2.1 er o67.2.2 me p pr) 0 rfl rfl rfl (fun l => c_X0_write Z l (a 1) (a 2) (a 3) o50.2.1 er o50.2.2 (me 0) ((6 + ((me 1) * 4)) + 1) n2 o67 e67) qw_284 mv_X0_write (xPk.idx [1, 2, 3] rfl rfl rfl rfl rfl) ⟨Nat.le_of_ble_eq_true rfl, Nat.le_of_ble_eq_true rfl⟩ ⟨rfl, rfl⟩ ⟨Nat.zero_le _, Nat.zero_le _⟩ rfl (Nat.le_of_ble_eq_true rfl) rfl dX5_fillPlace_67 ?_
    refine r_if_eq (tgt := 112) dX5_fillPlace_70 (by decide) (fun h70 => ?_) (fun h70 => ?_)
    · replace hg := (if_pos h70).symm.trans hg
      exact r_sub [] rfl (J112 o67.2.1 o67.2.2 hg)
    · replace hg := (if_neg h70).symm.trans hg
      refine r_aload_n dX5_fillPlace_73 3 rfl ?_
      refine gf_X5_0 (v := .ref (a 1)) 0 rfl rfl qw_96 dX5_fillPlace_74 ?_
      refine r_iload dX5_fillPlace_77 2 rfl ?_
      refine r_iload dX5_fillPlace_79 1 rfl ?_
      refine r_iconst (v := 2) dX5_fillPlace_81 kic_2 ?_
      refine r_iadd dX5_fillPlace_82 ?_
      refine r_iload_n dX5_fillPlace_83 6 rfl ?_
      obtain ⟨o84, e84, hg⟩ := ob hg
      refine r_callV (As := [.int (me 0), .int ((6 + ((me 1) * 4)) + 2), .int n3]) (rest := []) (ws' := wP Z a o84.2.1 er o84.2.2 me p pr) 0 rfl rfl rfl (fun l => c_X0_write Z l (a 1) (a 2) (a 3) o67.2.1 er o67.2.2 (me 0) ((6 + ((me 1) * 4)) + 2) n3 o84 e84) qw_284 mv_X0_write (xPk.idx [1, 2, 3] rfl rfl rfl rfl rfl) ⟨Nat.le_of_ble_eq_true rfl, Nat.le_of_ble_eq_true rfl⟩ ⟨rfl, rfl⟩ ⟨Nat.zero_le _, Nat.zero_le _⟩ rfl (Nat.le_of_ble_eq_true rfl) rfl dX5_fillPlace_84 ?_
      refine r_if_eq (tgt := 112) dX5_fillPlace_87 (by decide) (fun h87 => ?_) (fun h87 => ?_)
      · replace hg := (if_pos h87).symm.trans hg
        exact r_sub [] rfl (J112 o84.2.1 o84.2.2 hg)
      · replace hg := (if_neg h87).symm.trans hg
        refine r_aload_n dX5_fillPlace_90 3 rfl ?_
        refine gf_X5_0 (v := .ref (a 1)) 0 rfl rfl qw_96 dX5_fillPlace_91 ?_
        refine r_iload dX5_fillPlace_94 2 rfl ?_
        refine r_iload dX5_fillPlace_96 1 rfl ?_
        refine r_iconst (v := 3) dX5_fillPlace_98 kic_3 ?_
        refine r_iadd dX5_fillPlace_99 ?_
        refine r_iload dX5_fillPlace_100 0 rfl ?_
        obtain ⟨o102, e102, hg⟩ := ob hg
        refine r_callV (As := [.int (me 0), .int ((6 + ((me 1) * 4)) + 3), .int o36]) (rest := []) (ws' := wP Z a o102.2.1 er o102.2.2 me p pr) 0 rfl rfl rfl (fun l => c_X0_write Z l (a 1) (a 2) (a 3) o84.2.1 er o84.2.2 (me 0) ((6 + ((me 1) * 4)) + 3) o36 o102 e102) qw_284 mv_X0_write (xPk.idx [1, 2, 3] rfl rfl rfl rfl rfl) ⟨Nat.le_of_ble_eq_true rfl, Nat.le_of_ble_eq_true rfl⟩ ⟨rfl, rfl⟩ ⟨Nat.zero_le _, Nat.zero_le _⟩ rfl (Nat.le_of_ble_eq_true rfl) rfl dX5_fillPlace_102 ?_
        refine r_if_eq (tgt := 112) dX5_fillPlace_105 (by decide) (fun h105 => ?_) (fun h105 => ?_)
        · replace hg := (if_pos h105).symm.trans hg
          exact r_sub [] rfl (J112 o102.2.1 o102.2.2 hg)
        · replace hg := (if_neg h105).symm.trans hg
          refine r_iconst (v := 1) dX5_fillPlace_108 kic_1 ?_
          refine r_goto (tgt := 113) dX5_fillPlace_109 (by decide) ?_
          exact r_bret (hE _ (Option.some.inj hg)) (by decide) dX5_fillPlace_113

-- TicketJournal$Printer.writeRecord(III)Z
abbrev rm_X5_writeRecord : Room := { frames := 3, cells := 0, slots := 0, locals := 70 }
def g_X5_writeRecord_56   (w : Nat → Int32) (er : Nat → Int32) (fl : Nat → Int32) (me : Nat → Int32) (pr : Nat → Int32) : Option (Int32 × (Nat → Int32) × (Nat → Int32) × (Nat → Int32) × (Nat → Int32) × (Nat → Int32)) :=
  (g_X5_losePower me pr).bind fun o57 => some (0, w, er, fl, o57.1, o57.2)
def g_X5_writeRecord_38   (x2 : Int32) (x3 : Int32) (x4 : Int32) (t0 : Int32) (w : Nat → Int32) (er : Nat → Int32) (fl : Nat → Int32) (me : Nat → Int32) (pr : Nat → Int32) : Option (Int32 × (Nat → Int32) × (Nat → Int32) × (Nat → Int32) × (Nat → Int32) × (Nat → Int32)) :=
  (if t0 = 0 then g_X5_writeRecord_56 w er fl me pr else (g_X5_fillPlace w fl me x4 x2 x3).bind fun o50 => (if o50.1 = 0 then g_X5_writeRecord_56 o50.2.1 er o50.2.2 me pr else (g_X3_learn (upd me 1 ((me 1) + 1)) x4 x3).bind fun o82 => some (1, o50.2.1, er, o50.2.2, o82, pr)))
def g_X5_writeRecord_33   (x2 : Int32) (x3 : Int32) (x4 : Int32) (w : Nat → Int32) (er : Nat → Int32) (fl : Nat → Int32) (me : Nat → Int32) (pr : Nat → Int32) : Option (Int32 × (Nat → Int32) × (Nat → Int32) × (Nat → Int32) × (Nat → Int32) × (Nat → Int32)) :=
  g_X5_writeRecord_38 x2 x3 x4 1 w er fl me pr
def g_X5_writeRecord (w : Nat → Int32) (er : Nat → Int32) (fl : Nat → Int32) (me : Nat → Int32) (pr : Nat → Int32) (n1 : Int32) (n2 : Int32) (n3 : Int32) : Option (Int32 × (Nat → Int32) × (Nat → Int32) × (Nat → Int32) × (Nat → Int32) × (Nat → Int32)) :=
  (if (me 1) < 4 then g_X5_writeRecord_33 n2 n3 ((10000 * n1) + (me 2)) w er fl me pr else (g_X5_beginBlock w er fl me).bind fun o27 => (if o27.1 = 0 then g_X5_writeRecord_38 n2 n3 ((10000 * n1) + (me 2)) 0 o27.2.1 o27.2.2.1 o27.2.2.2.1 o27.2.2.2.2 pr else g_X5_writeRecord_33 n2 n3 ((10000 * n1) + (me 2)) o27.2.1 o27.2.2.1 o27.2.2.2.1 o27.2.2.2.2 pr))
set_option maxHeartbeats 4000000 in
set_option maxRecDepth 100000 in
theorem c_X5_writeRecord (Z : GZ) (l : Launch) (a : Nat → Nat) (w : Nat → Int32) (er : Nat → Int32) (fl : Nat → Int32) (me : Nat → Int32) (p : Nat → Int32) (pr : Nat → Int32) (n1 : Int32) (n2 : Int32) (n3 : Int32) (o : (Int32 × (Nat → Int32) × (Nat → Int32) × (Nat → Int32) × (Nat → Int32) × (Nat → Int32))) (hg : g_X5_writeRecord w er fl me pr n1 n2 n3 = some o) : Con Z l yX5_writeRecord cX5_writeRecord 6 (some .boolean) rm_X5_writeRecord [.ref (a 0), .int n1, .int n2, .int n3] (wP Z a w er fl me p pr) (some (.int o.1)) (wP Z a o.2.1 o.2.2.1 o.2.2.2.1 o.2.2.2.2.1 p o.2.2.2.2.2) := by
  refine Con.of (by decide) (Nat.le_of_ble_eq_true rfl) ?_
  intro X hE0
  have hE : ∀ z, z = o → endsX X Z (some .boolean) (some (.int z.1)) (wP Z a z.2.1 z.2.2.1 z.2.2.2.1 z.2.2.2.2.1 p z.2.2.2.2.2) := by
    rintro _ rfl; exact hE0
  have J56 : ∀ (w : Nat → Int32) (er : Nat → Int32) (fl : Nat → Int32) (me : Nat → Int32) (pr : Nat → Int32), g_X5_writeRecord_56 w er fl me pr = some o → AtK X Z rm_X5_writeRecord cX5_writeRecord RX5 6 0 0 (wP Z a w er fl me p pr) 56 [(0, .ref (a 0))] [] := by
    intro w er fl me pr hg
    unfold g_X5_writeRecord_56 at hg
    refine r_aload_n dX5_writeRecord_56 0 rfl ?_
    obtain ⟨o57, e57, hg⟩ := ob hg
    refine r_callV (As := []) (rest := []) (ws' := wP Z a w er fl o57.1 p o57.2) 0 rfl rfl rfl (fun l => c_X5_losePower Z l a w er fl me p pr  o57 e57) qw_295 mv_X5_losePower (xPk.all rfl) ⟨Nat.le_of_ble_eq_true rfl, Nat.le_of_ble_eq_true rfl⟩ ⟨rfl, rfl⟩ ⟨Nat.zero_le _, Nat.zero_le _⟩ rfl (Nat.le_of_ble_eq_true rfl) rfl dX5_writeRecord_57 ?_
    refine r_iconst (v := 0) dX5_writeRecord_60 kic_0 ?_
    exact r_bret (hE _ (Option.some.inj hg)) (by decide) dX5_writeRecord_61
  have J38 : ∀ (x2 : Int32) (x3 : Int32) (x4 : Int32) (t0 : Int32) (w : Nat → Int32) (er : Nat → Int32) (fl : Nat → Int32) (me : Nat → Int32) (pr : Nat → Int32), g_X5_writeRecord_38 x2 x3 x4 t0 w er fl me pr = some o → AtK X Z rm_X5_writeRecord cX5_writeRecord RX5 6 0 0 (wP Z a w er fl me p pr) 38 [(0, .ref (a 0)), (2, .int x2), (3, .int x3), (4, .int x4)] [.int t0] := by
    intro x2 x3 x4 t0 w er fl me pr hg
    unfold g_X5_writeRecord_38 at hg
    refine r_istore (lv' := [(5, .int t0), (0, .ref (a 0)), (2, .int x2), (3, .int x3), (4, .int x4)]) dX5_writeRecord_38 (by decide) rfl ?_
    refine r_iload dX5_writeRecord_40 0 rfl ?_
    refine r_if_eq (tgt := 56) dX5_writeRecord_42 (by decide) (fun h42 => ?_) (fun h42 => ?_)
    · replace hg := (if_pos h42).symm.trans hg
      exact r_sub [1] rfl (J56 w er fl me pr hg)
    · replace hg := (if_neg h42).symm.trans hg
      refine r_aload_n dX5_writeRecord_45 1 rfl ?_
      refine r_iload dX5_writeRecord_46 4 rfl ?_
      refine r_iload_n dX5_writeRecord_48 2 rfl ?_
      refine r_iload_n dX5_writeRecord_49 3 rfl ?_
      obtain ⟨o50, e50, hg⟩ := ob hg
      refine r_callV (As := [.int x4, .int x2, .int x3]) (rest := []) (ws' := wP Z a o50.2.1 er o50.2.2 me p pr) 0 rfl rfl rfl (fun l => c_X5_fillPlace Z l a w er fl me p pr x4 x2 x3 o50 e50) qw_288 mv_X5_fillPlace (xPk.all rfl) ⟨Nat.le_of_ble_eq_true rfl, Nat.le_of_ble_eq_true rfl⟩ ⟨rfl, rfl⟩ ⟨Nat.zero_le _, Nat.zero_le _⟩ rfl (Nat.le_of_ble_eq_true rfl) rfl dX5_writeRecord_50 ?_
      refine r_if_ne (tgt := 62) dX5_writeRecord_53 (by decide) (fun h53 => ?_) (fun h53 => ?_)
      · replace hg := (if_neg h53).symm.trans hg
        refine r_aload_n dX5_writeRecord_62 1 rfl ?_
        refine gf_X5_1 (v := .ref (a 4)) 0 rfl rfl qw_98 dX5_writeRecord_63 ?_
        refine r_dup dX5_writeRecord_66 rfl ?_
        refine gfN_X3_1 (v := .int (me 1)) 4 rfl rfl qw_69 dX5_writeRecord_67 ?_
        refine r_iconst (v := 1) dX5_writeRecord_70 kic_1 ?_
        refine r_iadd dX5_writeRecord_71 ?_
        refine pfN_X3_1 4 rfl (Nat.le_of_ble_eq_true rfl) qw_69 dX5_writeRecord_72 (ws' := wP Z a o50.2.1 er o50.2.2 (upd me 1 ((me 1) + 1)) p pr) rfl ?_
        refine r_aload_n dX5_writeRecord_75 1 rfl ?_
        refine gf_X5_1 (v := .ref (a 4)) 0 rfl rfl qw_98 dX5_writeRecord_76 ?_
        refine r_iload dX5_writeRecord_79 4 rfl ?_
        refine r_iload_n dX5_writeRecord_81 3 rfl ?_
        obtain ⟨o82, e82, hg⟩ := ob hg
        refine r_callV (As := [.int x4, .int x3]) (rest := []) (ws' := wP Z a o50.2.1 er o50.2.2 o82 p pr) 0 rfl rfl rfl (fun l => c_X3_learn Z l (a 4) (upd me 1 ((me 1) + 1)) x4 x3 o82 e82) qw_303 mv_X3_learn (xPk.idx [4] rfl rfl rfl rfl rfl) ⟨Nat.le_of_ble_eq_true rfl, Nat.le_of_ble_eq_true rfl⟩ ⟨rfl, rfl⟩ ⟨Nat.zero_le _, Nat.zero_le _⟩ rfl (Nat.le_of_ble_eq_true rfl) rfl dX5_writeRecord_82 ?_
        refine r_iconst (v := 1) dX5_writeRecord_85 kic_1 ?_
        exact r_bret (hE _ (Option.some.inj hg)) (by decide) dX5_writeRecord_86
      · replace hg := (if_pos h53).symm.trans hg
        exact r_sub [1] rfl (J56 o50.2.1 er o50.2.2 me pr hg)
  have J33 : ∀ (x2 : Int32) (x3 : Int32) (x4 : Int32) (w : Nat → Int32) (er : Nat → Int32) (fl : Nat → Int32) (me : Nat → Int32) (pr : Nat → Int32), g_X5_writeRecord_33 x2 x3 x4 w er fl me pr = some o → AtK X Z rm_X5_writeRecord cX5_writeRecord RX5 6 0 0 (wP Z a w er fl me p pr) 33 [(0, .ref (a 0)), (2, .int x2), (3, .int x3), (4, .int x4)] [] := by
    intro x2 x3 x4 w er fl me pr hg
    unfold g_X5_writeRecord_33 at hg
    refine r_iconst (v := 1) dX5_writeRecord_33 kic_1 ?_
    refine r_goto (tgt := 38) dX5_writeRecord_34 (by decide) ?_
    exact r_sub [0, 1, 2, 3] rfl (J38 x2 x3 x4 1 w er fl me pr hg)
  unfold g_X5_writeRecord at hg
  show AtK X Z rm_X5_writeRecord cX5_writeRecord RX5 6 0 0 (wP Z a w er fl me p pr) 0 [(0, .ref (a 0)), (1, .int n1), (2, .int n2), (3, .int n3)] []
  refine r_sipush (v := 10000) dX5_writeRecord_0 ksp_10000 ?_
  refine r_iload_n dX5_writeRecord_3 1 rfl ?_
  refine r_imul dX5_writeRecord_4 ?_
  refine r_aload_n dX5_writeRecord_5 0 rfl ?_
  refine gf_X5_1 (v := .ref (a 4)) 0 rfl rfl qw_98 dX5_writeRecord_6 ?_
  refine gfN_X3_2 (v := .int (me 2)) 4 rfl rfl qw_72 dX5_writeRecord_9 ?_
  refine r_iadd dX5_writeRecord_12 ?_
  refine r_istore (lv' := [(4, .int ((10000 * n1) + (me 2))), (0, .ref (a 0)), (1, .int n1), (2, .int n2), (3, .int n3)]) dX5_writeRecord_13 (by decide) rfl ?_
  refine r_aload_n dX5_writeRecord_15 1 rfl ?_
  refine gf_X5_1 (v := .ref (a 4)) 0 rfl rfl qw_98 dX5_writeRecord_16 ?_
  refine gfN_X3_1 (v := .int (me 1)) 4 rfl rfl qw_69 dX5_writeRecord_19 ?_
  refine r_iconst (v := 4) dX5_writeRecord_22 kic_4 ?_
  refine r_icmp_lt (tgt := 33) dX5_writeRecord_23 (by decide) (fun h23 => ?_) (fun h23 => ?_)
  · replace hg := (if_pos h23).symm.trans hg
    exact r_sub [1, 3, 4, 0] rfl (J33 n2 n3 ((10000 * n1) + (me 2)) w er fl me pr hg)
  · replace hg := (if_neg h23).symm.trans hg
    refine r_aload_n dX5_writeRecord_26 1 rfl ?_
    obtain ⟨o27, e27, hg⟩ := ob hg
    refine r_callV (As := []) (rest := []) (ws' := wP Z a o27.2.1 o27.2.2.1 o27.2.2.2.1 o27.2.2.2.2 p pr) 0 rfl rfl rfl (fun l => c_X5_beginBlock Z l a w er fl me p pr  o27 e27) qw_264 mv_X5_beginBlock (xPk.all rfl) ⟨Nat.le_of_ble_eq_true rfl, Nat.le_of_ble_eq_true rfl⟩ ⟨rfl, rfl⟩ ⟨Nat.zero_le _, Nat.zero_le _⟩ rfl (Nat.le_of_ble_eq_true rfl) rfl dX5_writeRecord_27 ?_
    refine r_if_eq (tgt := 37) dX5_writeRecord_30 (by decide) (fun h30 => ?_) (fun h30 => ?_)
    · replace hg := (if_pos h30).symm.trans hg
      refine r_iconst (v := 0) dX5_writeRecord_37 kic_0 ?_
      exact r_sub [1, 3, 4, 0] rfl (J38 n2 n3 ((10000 * n1) + (me 2)) 0 o27.2.1 o27.2.2.1 o27.2.2.2.1 o27.2.2.2.2 pr hg)
    · replace hg := (if_neg h30).symm.trans hg
      exact r_sub [1, 3, 4, 0] rfl (J33 n2 n3 ((10000 * n1) + (me 2)) o27.2.1 o27.2.2.1 o27.2.2.2.1 o27.2.2.2.2 pr hg)

-- TicketJournal$Printer.issueTicket(I)I
abbrev rm_X5_issueTicket : Room := { frames := 4, cells := 0, slots := 0, locals := 95 }
def g_X5_issueTicket (w : Nat → Int32) (er : Nat → Int32) (fl : Nat → Int32) (me : Nat → Int32) (p : Nat → Int32) (pr : Nat → Int32) (n1 : Int32) : Option (Int32 × (Nat → Int32) × (Nat → Int32) × (Nat → Int32) × (Nat → Int32) × (Nat → Int32)) :=
  (g_X5_priceOf p n1).bind fun o15 => (g_X5_writeRecord w er fl me pr 0 (pr 1) ((1000 * n1) + o15)).bind fun o27 => (if o27.1 = 0 then some ((-4), o27.2.1, o27.2.2.1, o27.2.2.2.1, o27.2.2.2.2.1, o27.2.2.2.2.2) else (g_X6_lengthOf n1).bind fun o41 => (if (o27.2.2.2.2.2 2) < o41 then (g_X5_writeRecord o27.2.1 o27.2.2.1 o27.2.2.2.1 o27.2.2.2.2.1 (upd o27.2.2.2.2.2 2 0) 1 (o27.2.2.2.2.2 1) ((1000 * n1) + o15)).bind fun o84 => (if o84.1 = 0 then some ((-4), o84.2.1, o84.2.2.1, o84.2.2.2.1, o84.2.2.2.2.1, o84.2.2.2.2.2) else some ((me 2), o84.2.1, o84.2.2.1, o84.2.2.2.1, o84.2.2.2.2.1, o84.2.2.2.2.2)) else (g_X6_lengthOf n1).bind fun o53 => some ((me 2), o27.2.1, o27.2.2.1, o27.2.2.2.1, o27.2.2.2.2.1, (upd (upd o27.2.2.2.2.2 2 ((o27.2.2.2.2.2 2) - o53)) 3 ((o27.2.2.2.2.2 3) + 1)))))
set_option maxHeartbeats 4000000 in
set_option maxRecDepth 100000 in
theorem c_X5_issueTicket (Z : GZ) (l : Launch) (a : Nat → Nat) (w : Nat → Int32) (er : Nat → Int32) (fl : Nat → Int32) (me : Nat → Int32) (p : Nat → Int32) (pr : Nat → Int32) (n1 : Int32) (o : (Int32 × (Nat → Int32) × (Nat → Int32) × (Nat → Int32) × (Nat → Int32) × (Nat → Int32))) (hg : g_X5_issueTicket w er fl me p pr n1 = some o) : Con Z l yX5_issueTicket cX5_issueTicket 4 (some .int) rm_X5_issueTicket [.ref (a 0), .int n1] (wP Z a w er fl me p pr) (some (.int o.1)) (wP Z a o.2.1 o.2.2.1 o.2.2.2.1 o.2.2.2.2.1 p o.2.2.2.2.2) := by
  refine Con.of (by decide) (Nat.le_of_ble_eq_true rfl) ?_
  intro X hE0
  have hE : ∀ z, z = o → endsX X Z (some .int) (some (.int z.1)) (wP Z a z.2.1 z.2.2.1 z.2.2.2.1 z.2.2.2.2.1 p z.2.2.2.2.2) := by
    rintro _ rfl; exact hE0
  unfold g_X5_issueTicket at hg
  show AtK X Z rm_X5_issueTicket cX5_issueTicket RX5 4 0 0 (wP Z a w er fl me p pr) 0 [(0, .ref (a 0)), (1, .int n1)] []
  refine r_aload_n dX5_issueTicket_0 0 rfl ?_
  refine gf_X5_1 (v := .ref (a 4)) 0 rfl rfl qw_98 dX5_issueTicket_1 ?_
  refine gfN_X3_2 (v := .int (me 2)) 4 rfl rfl qw_72 dX5_issueTicket_4 ?_
  refine r_istore_n (lv' := [(2, .int (me 2)), (0, .ref (a 0)), (1, .int n1)]) dX5_issueTicket_7 (by decide) rfl ?_
  refine r_sipush (v := 1000) dX5_issueTicket_8 ksp_1000 ?_
  refine r_iload_n dX5_issueTicket_11 2 rfl ?_
  refine r_imul dX5_issueTicket_12 ?_
  refine r_aload_n dX5_issueTicket_13 1 rfl ?_
  refine r_iload_n dX5_issueTicket_14 2 rfl ?_
  obtain ⟨o15, e15, hg⟩ := ob hg
  refine r_callV (As := [.int n1]) (rest := [.int (1000 * n1)]) (ws' := wP Z a w er fl me p pr) 0 rfl rfl rfl (fun l => c_X5_priceOf Z l a w er fl me p pr n1 o15 e15) qw_224 mv_X5_priceOf (xPk.all rfl) ⟨Nat.le_of_ble_eq_true rfl, Nat.le_of_ble_eq_true rfl⟩ ⟨rfl, rfl⟩ ⟨Nat.zero_le _, Nat.zero_le _⟩ rfl (Nat.le_of_ble_eq_true rfl) rfl dX5_issueTicket_15 ?_
  refine r_iadd dX5_issueTicket_18 ?_
  refine r_istore_n (lv' := [(3, .int ((1000 * n1) + o15)), (2, .int (me 2)), (0, .ref (a 0)), (1, .int n1)]) dX5_issueTicket_19 (by decide) rfl ?_
  refine r_aload_n dX5_issueTicket_20 2 rfl ?_
  refine r_iconst (v := 0) dX5_issueTicket_21 kic_0 ?_
  refine r_aload_n dX5_issueTicket_22 2 rfl ?_
  refine gf_X5_4 (v := .int (pr 1)) 0 rfl rfl qw_103 dX5_issueTicket_23 ?_
  refine r_iload_n dX5_issueTicket_26 0 rfl ?_
  obtain ⟨o27, e27, hg⟩ := ob hg
  refine r_callV (As := [.int 0, .int (pr 1), .int ((1000 * n1) + o15)]) (rest := []) (ws' := wP Z a o27.2.1 o27.2.2.1 o27.2.2.2.1 o27.2.2.2.2.1 p o27.2.2.2.2.2) 0 rfl rfl rfl (fun l => c_X5_writeRecord Z l a w er fl me p pr 0 (pr 1) ((1000 * n1) + o15) o27 e27) qw_260 mv_X5_writeRecord (xPk.all rfl) ⟨Nat.le_of_ble_eq_true rfl, Nat.le_of_ble_eq_true rfl⟩ ⟨rfl, rfl⟩ ⟨Nat.zero_le _, Nat.zero_le _⟩ rfl (Nat.le_of_ble_eq_true rfl) rfl dX5_issueTicket_27 ?_
  refine r_if_ne (tgt := 36) dX5_issueTicket_30 (by decide) (fun h30 => ?_) (fun h30 => ?_)
  · replace hg := (if_neg h30).symm.trans hg
    refine r_aload_n dX5_issueTicket_36 2 rfl ?_
    refine gf_X5_5 (v := .int (o27.2.2.2.2.2 2)) 0 rfl rfl qw_105 dX5_issueTicket_37 ?_
    refine r_iload_n dX5_issueTicket_40 3 rfl ?_
    obtain ⟨o41, e41, hg⟩ := ob hg
    refine r_callSN (As := [.int n1]) (rest := [.int (o27.2.2.2.2.2 2)]) (ws' := wP Z a o27.2.1 o27.2.2.1 o27.2.2.2.1 o27.2.2.2.2.1 p o27.2.2.2.2.2) (fun l => c_X6_lengthOf Z l   n1 o41 e41) qw_229 ms_X6_lengthOf xPk.none ⟨Nat.le_of_ble_eq_true rfl, Nat.le_of_ble_eq_true rfl⟩ ⟨rfl, rfl⟩ ⟨Nat.zero_le _, Nat.zero_le _⟩ rfl (Nat.le_of_ble_eq_true rfl) rfl dX5_issueTicket_41 ?_
    refine r_icmp_lt (tgt := 72) dX5_issueTicket_44 (by decide) (fun h44 => ?_) (fun h44 => ?_)
    · replace hg := (if_pos h44).symm.trans hg
      refine r_aload_n dX5_issueTicket_72 2 rfl ?_
      refine r_iconst (v := 0) dX5_issueTicket_73 kic_0 ?_
      refine pf_X5_5 0 rfl (Nat.le_of_ble_eq_true rfl) qw_105 dX5_issueTicket_74 (ws' := wP Z a o27.2.1 o27.2.2.1 o27.2.2.2.1 o27.2.2.2.2.1 p (upd o27.2.2.2.2.2 2 0)) rfl ?_
      refine r_aload_n dX5_issueTicket_77 2 rfl ?_
      refine r_iconst (v := 1) dX5_issueTicket_78 kic_1 ?_
      refine r_aload_n dX5_issueTicket_79 2 rfl ?_
      refine gf_X5_4 (v := .int (o27.2.2.2.2.2 1)) 0 rfl rfl qw_103 dX5_issueTicket_80 ?_
      refine r_iload_n dX5_issueTicket_83 0 rfl ?_
      obtain ⟨o84, e84, hg⟩ := ob hg
      refine r_callV (As := [.int 1, .int (o27.2.2.2.2.2 1), .int ((1000 * n1) + o15)]) (rest := []) (ws' := wP Z a o84.2.1 o84.2.2.1 o84.2.2.2.1 o84.2.2.2.2.1 p o84.2.2.2.2.2) 0 rfl rfl rfl (fun l => c_X5_writeRecord Z l a o27.2.1 o27.2.2.1 o27.2.2.2.1 o27.2.2.2.2.1 p (upd o27.2.2.2.2.2 2 0) 1 (o27.2.2.2.2.2 1) ((1000 * n1) + o15) o84 e84) qw_260 mv_X5_writeRecord (xPk.all rfl) ⟨Nat.le_of_ble_eq_true rfl, Nat.le_of_ble_eq_true rfl⟩ ⟨rfl, rfl⟩ ⟨Nat.zero_le _, Nat.zero_le _⟩ rfl (Nat.le_of_ble_eq_true rfl) rfl dX5_issueTicket_84 ?_
      refine r_if_eq (tgt := 94) dX5_issueTicket_87 (by decide) (fun h87 => ?_) (fun h87 => ?_)
      · replace hg := (if_pos h87).symm.trans hg
        refine r_bipush (v := (-4)) dX5_issueTicket_94 kbp_m4 ?_
        exact r_iret (hE _ (Option.some.inj hg)) dX5_issueTicket_96
      · replace hg := (if_neg h87).symm.trans hg
        refine r_iload_n dX5_issueTicket_90 1 rfl ?_
        refine r_goto (tgt := 96) dX5_issueTicket_91 (by decide) ?_
        exact r_iret (hE _ (Option.some.inj hg)) dX5_issueTicket_96
    · replace hg := (if_neg h44).symm.trans hg
      refine r_aload_n dX5_issueTicket_47 2 rfl ?_
      refine r_dup dX5_issueTicket_48 rfl ?_
      refine gf_X5_5 (v := .int (o27.2.2.2.2.2 2)) 0 rfl rfl qw_105 dX5_issueTicket_49 ?_
      refine r_iload_n dX5_issueTicket_52 3 rfl ?_
      obtain ⟨o53, e53, hg⟩ := ob hg
      refine r_callSN (As := [.int n1]) (rest := [.int (o27.2.2.2.2.2 2), .ref (a 0)]) (ws' := wP Z a o27.2.1 o27.2.2.1 o27.2.2.2.1 o27.2.2.2.2.1 p o27.2.2.2.2.2) (fun l => c_X6_lengthOf Z l   n1 o53 e53) qw_229 ms_X6_lengthOf xPk.none ⟨Nat.le_of_ble_eq_true rfl, Nat.le_of_ble_eq_true rfl⟩ ⟨rfl, rfl⟩ ⟨Nat.zero_le _, Nat.zero_le _⟩ rfl (Nat.le_of_ble_eq_true rfl) rfl dX5_issueTicket_53 ?_
      refine r_isub dX5_issueTicket_56 ?_
      refine pf_X5_5 0 rfl (Nat.le_of_ble_eq_true rfl) qw_105 dX5_issueTicket_57 (ws' := wP Z a o27.2.1 o27.2.2.1 o27.2.2.2.1 o27.2.2.2.2.1 p (upd o27.2.2.2.2.2 2 ((o27.2.2.2.2.2 2) - o53))) rfl ?_
      refine r_aload_n dX5_issueTicket_60 2 rfl ?_
      refine r_dup dX5_issueTicket_61 rfl ?_
      refine gf_X5_6 (v := .int (o27.2.2.2.2.2 3)) 0 rfl rfl qw_107 dX5_issueTicket_62 ?_
      refine r_iconst (v := 1) dX5_issueTicket_65 kic_1 ?_
      refine r_iadd dX5_issueTicket_66 ?_
      refine pf_X5_6 0 rfl (Nat.le_of_ble_eq_true rfl) qw_107 dX5_issueTicket_67 (ws' := wP Z a o27.2.1 o27.2.2.1 o27.2.2.2.1 o27.2.2.2.2.1 p (upd (upd o27.2.2.2.2.2 2 ((o27.2.2.2.2.2 2) - o53)) 3 ((o27.2.2.2.2.2 3) + 1))) rfl ?_
      refine r_iload_n dX5_issueTicket_70 1 rfl ?_
      exact r_iret (hE _ (Option.some.inj hg)) dX5_issueTicket_71
  · replace hg := (if_pos h30).symm.trans hg
    refine r_bipush (v := (-4)) dX5_issueTicket_33 kbp_m4 ?_
    exact r_iret (hE _ (Option.some.inj hg)) dX5_issueTicket_35

-- TicketJournal$Printer.endsWithTicket()Z
abbrev rm_X5_endsWithTicket : Room := { frames := 4, cells := 0, slots := 0, locals := 92 }
def g_X5_endsWithTicket_60 (w : Nat → Int32) (me : Nat → Int32)   : Option (Int32) :=
  some (0)
def g_X5_endsWithTicket (w : Nat → Int32) (me : Nat → Int32)  : Option (Int32) :=
  (if ((me 1) - 1) < 0 then g_X5_endsWithTicket_60 w me else (g_X0_stateOf w (me 0) ((me 1) - 1)).bind fun o26 => (if o26 = 1 then (g_X0_recordWord w (me 0) ((me 1) - 1) 0).bind fun o46 => (if (o46 / 10000) = 0 then some (1) else g_X5_endsWithTicket_60 w me) else g_X5_endsWithTicket_60 w me))
set_option maxHeartbeats 4000000 in
set_option maxRecDepth 100000 in
theorem c_X5_endsWithTicket (Z : GZ) (l : Launch) (a : Nat → Nat) (w : Nat → Int32) (er : Nat → Int32) (fl : Nat → Int32) (me : Nat → Int32) (p : Nat → Int32) (pr : Nat → Int32)  (o : (Int32)) (hg : g_X5_endsWithTicket w me = some o) : Con Z l yX5_endsWithTicket cX5_endsWithTicket 2 (some .boolean) rm_X5_endsWithTicket [.ref (a 0)] (wP Z a w er fl me p pr) (some (.int o)) (wP Z a w er fl me p pr) := by
  refine Con.of (by decide) (Nat.le_of_ble_eq_true rfl) ?_
  intro X hE0
  have hE : ∀ z, z = o → endsX X Z (some .boolean) (some (.int z)) (wP Z a w er fl me p pr) := by
    rintro _ rfl; exact hE0
  have J60 : g_X5_endsWithTicket_60 w me = some o → AtK X Z rm_X5_endsWithTicket cX5_endsWithTicket RX5 2 0 0 (wP Z a w er fl me p pr) 60 [] [] := by
    intro  hg
    unfold g_X5_endsWithTicket_60 at hg
    refine r_iconst (v := 0) dX5_endsWithTicket_60 kic_0 ?_
    exact r_bret (hE _ (Option.some.inj hg)) (by decide) dX5_endsWithTicket_61
  unfold g_X5_endsWithTicket at hg
  show AtK X Z rm_X5_endsWithTicket cX5_endsWithTicket RX5 2 0 0 (wP Z a w er fl me p pr) 0 [(0, .ref (a 0))] []
  refine r_aload_n dX5_endsWithTicket_0 0 rfl ?_
  refine gf_X5_1 (v := .ref (a 4)) 0 rfl rfl qw_98 dX5_endsWithTicket_1 ?_
  refine gfN_X3_1 (v := .int (me 1)) 4 rfl rfl qw_69 dX5_endsWithTicket_4 ?_
  refine r_iconst (v := 1) dX5_endsWithTicket_7 kic_1 ?_
  refine r_isub dX5_endsWithTicket_8 ?_
  refine r_istore_n (lv' := [(1, .int ((me 1) - 1)), (0, .ref (a 0))]) dX5_endsWithTicket_9 (by decide) rfl ?_
  refine r_iload_n dX5_endsWithTicket_10 0 rfl ?_
  refine r_if_lt (tgt := 60) dX5_endsWithTicket_11 (by decide) (fun h11 => ?_) (fun h11 => ?_)
  · replace hg := (if_pos h11).symm.trans hg
    exact r_sub [] rfl (J60 hg)
  · replace hg := (if_neg h11).symm.trans hg
    refine r_aload_n dX5_endsWithTicket_14 1 rfl ?_
    refine gf_X5_0 (v := .ref (a 1)) 0 rfl rfl qw_96 dX5_endsWithTicket_15 ?_
    refine r_aload_n dX5_endsWithTicket_18 1 rfl ?_
    refine gf_X5_1 (v := .ref (a 4)) 0 rfl rfl qw_98 dX5_endsWithTicket_19 ?_
    refine gfN_X3_0 (v := .int (me 0)) 4 rfl rfl qw_66 dX5_endsWithTicket_22 ?_
    refine r_iload_n dX5_endsWithTicket_25 0 rfl ?_
    obtain ⟨o26, e26, hg⟩ := ob hg
    refine r_callV (As := [.int (me 0), .int ((me 1) - 1)]) (rest := []) (ws' := wP Z a w er fl me p pr) 0 rfl rfl rfl (fun l => c_X0_stateOf Z l (a 1) (a 2) (a 3) w er fl (me 0) ((me 1) - 1) o26 e26) qw_316 mv_X0_stateOf (xPk.idx [1, 2, 3] rfl rfl rfl rfl rfl) ⟨Nat.le_of_ble_eq_true rfl, Nat.le_of_ble_eq_true rfl⟩ ⟨rfl, rfl⟩ ⟨Nat.zero_le _, Nat.zero_le _⟩ rfl (Nat.le_of_ble_eq_true rfl) rfl dX5_endsWithTicket_26 ?_
    refine r_iconst (v := 1) dX5_endsWithTicket_29 kic_1 ?_
    refine r_icmp_ne (tgt := 60) dX5_endsWithTicket_30 (by decide) (fun h30 => ?_) (fun h30 => ?_)
    · replace hg := (if_neg h30).symm.trans hg
      exact r_sub [] rfl (J60 hg)
    · replace hg := (if_pos h30).symm.trans hg
      refine r_aload_n dX5_endsWithTicket_33 1 rfl ?_
      refine gf_X5_0 (v := .ref (a 1)) 0 rfl rfl qw_96 dX5_endsWithTicket_34 ?_
      refine r_aload_n dX5_endsWithTicket_37 1 rfl ?_
      refine gf_X5_1 (v := .ref (a 4)) 0 rfl rfl qw_98 dX5_endsWithTicket_38 ?_
      refine gfN_X3_0 (v := .int (me 0)) 4 rfl rfl qw_66 dX5_endsWithTicket_41 ?_
      refine r_iload_n dX5_endsWithTicket_44 0 rfl ?_
      refine r_iconst (v := 0) dX5_endsWithTicket_45 kic_0 ?_
      obtain ⟨o46, e46, hg⟩ := ob hg
      refine r_callV (As := [.int (me 0), .int ((me 1) - 1), .int 0]) (rest := []) (ws' := wP Z a w er fl me p pr) 0 rfl rfl rfl (fun l => c_X0_recordWord Z l (a 1) (a 2) (a 3) w er fl (me 0) ((me 1) - 1) 0 o46 e46) qw_330 mv_X0_recordWord (xPk.idx [1, 2, 3] rfl rfl rfl rfl rfl) ⟨Nat.le_of_ble_eq_true rfl, Nat.le_of_ble_eq_true rfl⟩ ⟨rfl, rfl⟩ ⟨Nat.zero_le _, Nat.zero_le _⟩ rfl (Nat.le_of_ble_eq_true rfl) rfl dX5_endsWithTicket_46 ?_
      refine r_sipush (v := 10000) dX5_endsWithTicket_49 ksp_10000 ?_
      refine r_idiv dX5_endsWithTicket_52 (by decide) ?_
      refine r_if_ne (tgt := 60) dX5_endsWithTicket_53 (by decide) (fun h53 => ?_) (fun h53 => ?_)
      · replace hg := (if_neg h53).symm.trans hg
        exact r_sub [] rfl (J60 hg)
      · replace hg := (if_pos h53).symm.trans hg
        refine r_iconst (v := 1) dX5_endsWithTicket_56 kic_1 ?_
        refine r_goto (tgt := 61) dX5_endsWithTicket_57 (by decide) ?_
        exact r_bret (hE _ (Option.some.inj hg)) (by decide) dX5_endsWithTicket_61

-- TicketJournal$Printer.cancelLatest()I
abbrev rm_X5_cancelLatest : Room := { frames := 4, cells := 0, slots := 0, locals := 95 }
def g_X5_cancelLatest (w : Nat → Int32) (er : Nat → Int32) (fl : Nat → Int32) (me : Nat → Int32) (pr : Nat → Int32)  : Option (Int32 × (Nat → Int32) × (Nat → Int32) × (Nat → Int32) × (Nat → Int32) × (Nat → Int32)) :=
  (g_X0_recordWord w (me 0) ((me 1) - 1) 2).bind fun o21 => (g_X5_writeRecord w er fl me pr 1 (pr 1) o21).bind fun o32 => (if o32.1 = 0 then some ((-4), o32.2.1, o32.2.2.1, o32.2.2.2.1, o32.2.2.2.2.1, o32.2.2.2.2.2) else some ((jrem o21 1000), o32.2.1, o32.2.2.1, o32.2.2.2.1, o32.2.2.2.2.1, o32.2.2.2.2.2))
set_option maxHeartbeats 4000000 in
set_option maxRecDepth 100000 in
theorem c_X5_cancelLatest (Z : GZ) (l : Launch) (a : Nat → Nat) (w : Nat → Int32) (er : Nat → Int32) (fl : Nat → Int32) (me : Nat → Int32) (p : Nat → Int32) (pr : Nat → Int32)  (o : (Int32 × (Nat → Int32) × (Nat → Int32) × (Nat → Int32) × (Nat → Int32) × (Nat → Int32))) (hg : g_X5_cancelLatest w er fl me pr = some o) : Con Z l yX5_cancelLatest cX5_cancelLatest 2 (some .int) rm_X5_cancelLatest [.ref (a 0)] (wP Z a w er fl me p pr) (some (.int o.1)) (wP Z a o.2.1 o.2.2.1 o.2.2.2.1 o.2.2.2.2.1 p o.2.2.2.2.2) := by
  refine Con.of (by decide) (Nat.le_of_ble_eq_true rfl) ?_
  intro X hE0
  have hE : ∀ z, z = o → endsX X Z (some .int) (some (.int z.1)) (wP Z a z.2.1 z.2.2.1 z.2.2.2.1 z.2.2.2.2.1 p z.2.2.2.2.2) := by
    rintro _ rfl; exact hE0
  unfold g_X5_cancelLatest at hg
  show AtK X Z rm_X5_cancelLatest cX5_cancelLatest RX5 2 0 0 (wP Z a w er fl me p pr) 0 [(0, .ref (a 0))] []
  refine r_aload_n dX5_cancelLatest_0 0 rfl ?_
  refine gf_X5_0 (v := .ref (a 1)) 0 rfl rfl qw_96 dX5_cancelLatest_1 ?_
  refine r_aload_n dX5_cancelLatest_4 0 rfl ?_
  refine gf_X5_1 (v := .ref (a 4)) 0 rfl rfl qw_98 dX5_cancelLatest_5 ?_
  refine gfN_X3_0 (v := .int (me 0)) 4 rfl rfl qw_66 dX5_cancelLatest_8 ?_
  refine r_aload_n dX5_cancelLatest_11 0 rfl ?_
  refine gf_X5_1 (v := .ref (a 4)) 0 rfl rfl qw_98 dX5_cancelLatest_12 ?_
  refine gfN_X3_1 (v := .int (me 1)) 4 rfl rfl qw_69 dX5_cancelLatest_15 ?_
  refine r_iconst (v := 1) dX5_cancelLatest_18 kic_1 ?_
  refine r_isub dX5_cancelLatest_19 ?_
  refine r_iconst (v := 2) dX5_cancelLatest_20 kic_2 ?_
  obtain ⟨o21, e21, hg⟩ := ob hg
  refine r_callV (As := [.int (me 0), .int ((me 1) - 1), .int 2]) (rest := []) (ws' := wP Z a w er fl me p pr) 0 rfl rfl rfl (fun l => c_X0_recordWord Z l (a 1) (a 2) (a 3) w er fl (me 0) ((me 1) - 1) 2 o21 e21) qw_330 mv_X0_recordWord (xPk.idx [1, 2, 3] rfl rfl rfl rfl rfl) ⟨Nat.le_of_ble_eq_true rfl, Nat.le_of_ble_eq_true rfl⟩ ⟨rfl, rfl⟩ ⟨Nat.zero_le _, Nat.zero_le _⟩ rfl (Nat.le_of_ble_eq_true rfl) rfl dX5_cancelLatest_21 ?_
  refine r_istore_n (lv' := [(1, .int o21), (0, .ref (a 0))]) dX5_cancelLatest_24 (by decide) rfl ?_
  refine r_aload_n dX5_cancelLatest_25 1 rfl ?_
  refine r_iconst (v := 1) dX5_cancelLatest_26 kic_1 ?_
  refine r_aload_n dX5_cancelLatest_27 1 rfl ?_
  refine gf_X5_4 (v := .int (pr 1)) 0 rfl rfl qw_103 dX5_cancelLatest_28 ?_
  refine r_iload_n dX5_cancelLatest_31 0 rfl ?_
  obtain ⟨o32, e32, hg⟩ := ob hg
  refine r_callV (As := [.int 1, .int (pr 1), .int o21]) (rest := []) (ws' := wP Z a o32.2.1 o32.2.2.1 o32.2.2.2.1 o32.2.2.2.2.1 p o32.2.2.2.2.2) 0 rfl rfl rfl (fun l => c_X5_writeRecord Z l a w er fl me p pr 1 (pr 1) o21 o32 e32) qw_260 mv_X5_writeRecord (xPk.all rfl) ⟨Nat.le_of_ble_eq_true rfl, Nat.le_of_ble_eq_true rfl⟩ ⟨rfl, rfl⟩ ⟨Nat.zero_le _, Nat.zero_le _⟩ rfl (Nat.le_of_ble_eq_true rfl) rfl dX5_cancelLatest_32 ?_
  refine r_if_eq (tgt := 46) dX5_cancelLatest_35 (by decide) (fun h35 => ?_) (fun h35 => ?_)
  · replace hg := (if_pos h35).symm.trans hg
    refine r_bipush (v := (-4)) dX5_cancelLatest_46 kbp_m4 ?_
    exact r_iret (hE _ (Option.some.inj hg)) dX5_cancelLatest_48
  · replace hg := (if_neg h35).symm.trans hg
    refine r_iload_n dX5_cancelLatest_38 0 rfl ?_
    refine r_sipush (v := 1000) dX5_cancelLatest_39 ksp_1000 ?_
    refine r_irem dX5_cancelLatest_42 (by decide) ?_
    refine r_goto (tgt := 48) dX5_cancelLatest_43 (by decide) ?_
    exact r_iret (hE _ (Option.some.inj hg)) dX5_cancelLatest_48

-- TicketJournal$Printer.closeDay()I
abbrev rm_X5_closeDay : Room := { frames := 4, cells := 0, slots := 0, locals := 95 }
def g_X5_closeDay (w : Nat → Int32) (er : Nat → Int32) (fl : Nat → Int32) (me : Nat → Int32) (pr : Nat → Int32)  : Option (Int32 × (Nat → Int32) × (Nat → Int32) × (Nat → Int32) × (Nat → Int32) × (Nat → Int32)) :=
  (g_X5_writeRecord w er fl me pr 3 (pr 1) (me 3)).bind fun o15 => (if o15.1 = 0 then some ((-4), o15.2.1, o15.2.2.1, o15.2.2.2.1, o15.2.2.2.2.1, o15.2.2.2.2.2) else some ((me 3), o15.2.1, o15.2.2.1, o15.2.2.2.1, o15.2.2.2.2.1, o15.2.2.2.2.2))
set_option maxHeartbeats 4000000 in
set_option maxRecDepth 100000 in
theorem c_X5_closeDay (Z : GZ) (l : Launch) (a : Nat → Nat) (w : Nat → Int32) (er : Nat → Int32) (fl : Nat → Int32) (me : Nat → Int32) (p : Nat → Int32) (pr : Nat → Int32)  (o : (Int32 × (Nat → Int32) × (Nat → Int32) × (Nat → Int32) × (Nat → Int32) × (Nat → Int32))) (hg : g_X5_closeDay w er fl me pr = some o) : Con Z l yX5_closeDay cX5_closeDay 2 (some .int) rm_X5_closeDay [.ref (a 0)] (wP Z a w er fl me p pr) (some (.int o.1)) (wP Z a o.2.1 o.2.2.1 o.2.2.2.1 o.2.2.2.2.1 p o.2.2.2.2.2) := by
  refine Con.of (by decide) (Nat.le_of_ble_eq_true rfl) ?_
  intro X hE0
  have hE : ∀ z, z = o → endsX X Z (some .int) (some (.int z.1)) (wP Z a z.2.1 z.2.2.1 z.2.2.2.1 z.2.2.2.2.1 p z.2.2.2.2.2) := by
    rintro _ rfl; exact hE0
  unfold g_X5_closeDay at hg
  show AtK X Z rm_X5_closeDay cX5_closeDay RX5 2 0 0 (wP Z a w er fl me p pr) 0 [(0, .ref (a 0))] []
  refine r_aload_n dX5_closeDay_0 0 rfl ?_
  refine gf_X5_1 (v := .ref (a 4)) 0 rfl rfl qw_98 dX5_closeDay_1 ?_
  refine gfN_X3_3 (v := .int (me 3)) 4 rfl rfl qw_75 dX5_closeDay_4 ?_
  refine r_istore_n (lv' := [(1, .int (me 3)), (0, .ref (a 0))]) dX5_closeDay_7 (by decide) rfl ?_
  refine r_aload_n dX5_closeDay_8 1 rfl ?_
  refine r_iconst (v := 3) dX5_closeDay_9 kic_3 ?_
  refine r_aload_n dX5_closeDay_10 1 rfl ?_
  refine gf_X5_4 (v := .int (pr 1)) 0 rfl rfl qw_103 dX5_closeDay_11 ?_
  refine r_iload_n dX5_closeDay_14 0 rfl ?_
  obtain ⟨o15, e15, hg⟩ := ob hg
  refine r_callV (As := [.int 3, .int (pr 1), .int (me 3)]) (rest := []) (ws' := wP Z a o15.2.1 o15.2.2.1 o15.2.2.2.1 o15.2.2.2.2.1 p o15.2.2.2.2.2) 0 rfl rfl rfl (fun l => c_X5_writeRecord Z l a w er fl me p pr 3 (pr 1) (me 3) o15 e15) qw_260 mv_X5_writeRecord (xPk.all rfl) ⟨Nat.le_of_ble_eq_true rfl, Nat.le_of_ble_eq_true rfl⟩ ⟨rfl, rfl⟩ ⟨Nat.zero_le _, Nat.zero_le _⟩ rfl (Nat.le_of_ble_eq_true rfl) rfl dX5_closeDay_15 ?_
  refine r_if_eq (tgt := 25) dX5_closeDay_18 (by decide) (fun h18 => ?_) (fun h18 => ?_)
  · replace hg := (if_pos h18).symm.trans hg
    refine r_bipush (v := (-4)) dX5_closeDay_25 kbp_m4 ?_
    exact r_iret (hE _ (Option.some.inj hg)) dX5_closeDay_27
  · replace hg := (if_neg h18).symm.trans hg
    refine r_iload_n dX5_closeDay_21 0 rfl ?_
    refine r_goto (tgt := 27) dX5_closeDay_22 (by decide) ?_
    exact r_iret (hE _ (Option.some.inj hg)) dX5_closeDay_27

-- TicketJournal$Printer.putInPaper(II)I
abbrev rm_X5_putInPaper : Room := { frames := 4, cells := 0, slots := 0, locals := 95 }
def g_X5_putInPaper (w : Nat → Int32) (er : Nat → Int32) (fl : Nat → Int32) (me : Nat → Int32) (pr : Nat → Int32) (n1 : Int32) (n2 : Int32) : Option (Int32 × (Nat → Int32) × (Nat → Int32) × (Nat → Int32) × (Nat → Int32) × (Nat → Int32)) :=
  (g_X5_writeRecord w er fl me (upd pr 2 n2) 4 (pr 1) n1).bind fun o17 => (if o17.1 = 0 then some ((-4), o17.2.1, o17.2.2.1, o17.2.2.2.1, o17.2.2.2.2.1, o17.2.2.2.2.2) else some ((pr 2), o17.2.1, o17.2.2.1, o17.2.2.2.1, o17.2.2.2.2.1, o17.2.2.2.2.2))
set_option maxHeartbeats 4000000 in
set_option maxRecDepth 100000 in
theorem c_X5_putInPaper (Z : GZ) (l : Launch) (a : Nat → Nat) (w : Nat → Int32) (er : Nat → Int32) (fl : Nat → Int32) (me : Nat → Int32) (p : Nat → Int32) (pr : Nat → Int32) (n1 : Int32) (n2 : Int32) (o : (Int32 × (Nat → Int32) × (Nat → Int32) × (Nat → Int32) × (Nat → Int32) × (Nat → Int32))) (hg : g_X5_putInPaper w er fl me pr n1 n2 = some o) : Con Z l yX5_putInPaper cX5_putInPaper 4 (some .int) rm_X5_putInPaper [.ref (a 0), .int n1, .int n2] (wP Z a w er fl me p pr) (some (.int o.1)) (wP Z a o.2.1 o.2.2.1 o.2.2.2.1 o.2.2.2.2.1 p o.2.2.2.2.2) := by
  refine Con.of (by decide) (Nat.le_of_ble_eq_true rfl) ?_
  intro X hE0
  have hE : ∀ z, z = o → endsX X Z (some .int) (some (.int z.1)) (wP Z a z.2.1 z.2.2.1 z.2.2.2.1 z.2.2.2.2.1 p z.2.2.2.2.2) := by
    rintro _ rfl; exact hE0
  unfold g_X5_putInPaper at hg
  show AtK X Z rm_X5_putInPaper cX5_putInPaper RX5 4 0 0 (wP Z a w er fl me p pr) 0 [(0, .ref (a 0)), (1, .int n1), (2, .int n2)] []
  refine r_aload_n dX5_putInPaper_0 0 rfl ?_
  refine gf_X5_5 (v := .int (pr 2)) 0 rfl rfl qw_105 dX5_putInPaper_1 ?_
  refine r_istore_n (lv' := [(3, .int (pr 2)), (0, .ref (a 0)), (1, .int n1), (2, .int n2)]) dX5_putInPaper_4 (by decide) rfl ?_
  refine r_aload_n dX5_putInPaper_5 1 rfl ?_
  refine r_iload_n dX5_putInPaper_6 3 rfl ?_
  refine pf_X5_5 0 rfl (Nat.le_of_ble_eq_true rfl) qw_105 dX5_putInPaper_7 (ws' := wP Z a w er fl me p (upd pr 2 n2)) rfl ?_
  refine r_aload_n dX5_putInPaper_10 1 rfl ?_
  refine r_iconst (v := 4) dX5_putInPaper_11 kic_4 ?_
  refine r_aload_n dX5_putInPaper_12 1 rfl ?_
  refine gf_X5_4 (v := .int (pr 1)) 0 rfl rfl qw_103 dX5_putInPaper_13 ?_
  refine r_iload_n dX5_putInPaper_16 2 rfl ?_
  obtain ⟨o17, e17, hg⟩ := ob hg
  refine r_callV (As := [.int 4, .int (pr 1), .int n1]) (rest := []) (ws' := wP Z a o17.2.1 o17.2.2.1 o17.2.2.2.1 o17.2.2.2.2.1 p o17.2.2.2.2.2) 0 rfl rfl rfl (fun l => c_X5_writeRecord Z l a w er fl me p (upd pr 2 n2) 4 (pr 1) n1 o17 e17) qw_260 mv_X5_writeRecord (xPk.all rfl) ⟨Nat.le_of_ble_eq_true rfl, Nat.le_of_ble_eq_true rfl⟩ ⟨rfl, rfl⟩ ⟨Nat.zero_le _, Nat.zero_le _⟩ rfl (Nat.le_of_ble_eq_true rfl) rfl dX5_putInPaper_17 ?_
  refine r_if_eq (tgt := 27) dX5_putInPaper_20 (by decide) (fun h20 => ?_) (fun h20 => ?_)
  · replace hg := (if_pos h20).symm.trans hg
    refine r_bipush (v := (-4)) dX5_putInPaper_27 kbp_m4 ?_
    exact r_iret (hE _ (Option.some.inj hg)) dX5_putInPaper_29
  · replace hg := (if_neg h20).symm.trans hg
    refine r_iload_n dX5_putInPaper_23 0 rfl ?_
    refine r_goto (tgt := 29) dX5_putInPaper_24 (by decide) ?_
    exact r_iret (hE _ (Option.some.inj hg)) dX5_putInPaper_29

-- TicketJournal$Printer.moveClock(I)I
abbrev rm_X5_moveClock : Room := { frames := 4, cells := 0, slots := 0, locals := 95 }
def g_X5_moveClock_39   (x1 : Int32) (x2 : Int32) (w : Nat → Int32) (er : Nat → Int32) (fl : Nat → Int32) (me : Nat → Int32) (pr : Nat → Int32) : Option (Int32 × (Nat → Int32) × (Nat → Int32) × (Nat → Int32) × (Nat → Int32) × (Nat → Int32)) :=
  (if x2 = 0 then some (0, w, er, fl, me, (upd pr 1 x1)) else some (1, w, er, fl, me, (upd pr 1 x1)))
def g_X5_moveClock_18   (x1 : Int32) (t0 : Int32) (w : Nat → Int32) (er : Nat → Int32) (fl : Nat → Int32) (me : Nat → Int32) (pr : Nat → Int32) : Option (Int32 × (Nat → Int32) × (Nat → Int32) × (Nat → Int32) × (Nat → Int32) × (Nat → Int32)) :=
  (if t0 = 0 then g_X5_moveClock_39 x1 t0 w er fl me pr else (g_X5_writeRecord w er fl me pr 2 x1 (pr 1)).bind fun o30 => (if o30.1 = 0 then some ((-4), o30.2.1, o30.2.2.1, o30.2.2.2.1, o30.2.2.2.2.1, o30.2.2.2.2.2) else g_X5_moveClock_39 x1 t0 o30.2.1 o30.2.2.1 o30.2.2.2.1 o30.2.2.2.2.1 o30.2.2.2.2.2))
def g_X5_moveClock (w : Nat → Int32) (er : Nat → Int32) (fl : Nat → Int32) (me : Nat → Int32) (pr : Nat → Int32) (n1 : Int32) : Option (Int32 × (Nat → Int32) × (Nat → Int32) × (Nat → Int32) × (Nat → Int32) × (Nat → Int32)) :=
  (if (if 0 ≤ (n1 - (pr 1)) then (n1 - (pr 1)) else 0 - (n1 - (pr 1))) < 5 then g_X5_moveClock_18 n1 0 w er fl me pr else g_X5_moveClock_18 n1 1 w er fl me pr)
set_option maxHeartbeats 4000000 in
set_option maxRecDepth 100000 in
theorem c_X5_moveClock (Z : GZ) (l : Launch) (a : Nat → Nat) (w : Nat → Int32) (er : Nat → Int32) (fl : Nat → Int32) (me : Nat → Int32) (p : Nat → Int32) (pr : Nat → Int32) (n1 : Int32) (o : (Int32 × (Nat → Int32) × (Nat → Int32) × (Nat → Int32) × (Nat → Int32) × (Nat → Int32))) (hg : g_X5_moveClock w er fl me pr n1 = some o) : Con Z l yX5_moveClock cX5_moveClock 3 (some .int) rm_X5_moveClock [.ref (a 0), .int n1] (wP Z a w er fl me p pr) (some (.int o.1)) (wP Z a o.2.1 o.2.2.1 o.2.2.2.1 o.2.2.2.2.1 p o.2.2.2.2.2) := by
  refine Con.of (by decide) (Nat.le_of_ble_eq_true rfl) ?_
  intro X hE0
  have hE : ∀ z, z = o → endsX X Z (some .int) (some (.int z.1)) (wP Z a z.2.1 z.2.2.1 z.2.2.2.1 z.2.2.2.2.1 p z.2.2.2.2.2) := by
    rintro _ rfl; exact hE0
  have J39 : ∀ (x1 : Int32) (x2 : Int32) (w : Nat → Int32) (er : Nat → Int32) (fl : Nat → Int32) (me : Nat → Int32) (pr : Nat → Int32), g_X5_moveClock_39 x1 x2 w er fl me pr = some o → AtK X Z rm_X5_moveClock cX5_moveClock RX5 3 0 0 (wP Z a w er fl me p pr) 39 [(0, .ref (a 0)), (1, .int x1), (2, .int x2)] [] := by
    intro x1 x2 w er fl me pr hg
    unfold g_X5_moveClock_39 at hg
    refine r_aload_n dX5_moveClock_39 0 rfl ?_
    refine r_iload_n dX5_moveClock_40 1 rfl ?_
    refine pf_X5_4 0 rfl (Nat.le_of_ble_eq_true rfl) qw_103 dX5_moveClock_41 (ws' := wP Z a w er fl me p (upd pr 1 x1)) rfl ?_
    refine r_iload_n dX5_moveClock_44 2 rfl ?_
    refine r_if_eq (tgt := 52) dX5_moveClock_45 (by decide) (fun h45 => ?_) (fun h45 => ?_)
    · replace hg := (if_pos h45).symm.trans hg
      refine r_iconst (v := 0) dX5_moveClock_52 kic_0 ?_
      exact r_iret (hE _ (Option.some.inj hg)) dX5_moveClock_53
    · replace hg := (if_neg h45).symm.trans hg
      refine r_iconst (v := 1) dX5_moveClock_48 kic_1 ?_
      refine r_goto (tgt := 53) dX5_moveClock_49 (by decide) ?_
      exact r_iret (hE _ (Option.some.inj hg)) dX5_moveClock_53
  have J18 : ∀ (x1 : Int32) (t0 : Int32) (w : Nat → Int32) (er : Nat → Int32) (fl : Nat → Int32) (me : Nat → Int32) (pr : Nat → Int32), g_X5_moveClock_18 x1 t0 w er fl me pr = some o → AtK X Z rm_X5_moveClock cX5_moveClock RX5 3 0 0 (wP Z a w er fl me p pr) 18 [(0, .ref (a 0)), (1, .int x1)] [.int t0] := by
    intro x1 t0 w er fl me pr hg
    unfold g_X5_moveClock_18 at hg
    refine r_istore_n (lv' := [(2, .int t0), (0, .ref (a 0)), (1, .int x1)]) dX5_moveClock_18 (by decide) rfl ?_
    refine r_iload_n dX5_moveClock_19 0 rfl ?_
    refine r_if_eq (tgt := 39) dX5_moveClock_20 (by decide) (fun h20 => ?_) (fun h20 => ?_)
    · replace hg := (if_pos h20).symm.trans hg
      exact r_sub [1, 2, 0] rfl (J39 x1 t0 w er fl me pr hg)
    · replace hg := (if_neg h20).symm.trans hg
      refine r_aload_n dX5_moveClock_23 1 rfl ?_
      refine r_iconst (v := 2) dX5_moveClock_24 kic_2 ?_
      refine r_iload_n dX5_moveClock_25 2 rfl ?_
      refine r_aload_n dX5_moveClock_26 1 rfl ?_
      refine gf_X5_4 (v := .int (pr 1)) 0 rfl rfl qw_103 dX5_moveClock_27 ?_
      obtain ⟨o30, e30, hg⟩ := ob hg
      refine r_callV (As := [.int 2, .int x1, .int (pr 1)]) (rest := []) (ws' := wP Z a o30.2.1 o30.2.2.1 o30.2.2.2.1 o30.2.2.2.2.1 p o30.2.2.2.2.2) 0 rfl rfl rfl (fun l => c_X5_writeRecord Z l a w er fl me p pr 2 x1 (pr 1) o30 e30) qw_260 mv_X5_writeRecord (xPk.all rfl) ⟨Nat.le_of_ble_eq_true rfl, Nat.le_of_ble_eq_true rfl⟩ ⟨rfl, rfl⟩ ⟨Nat.zero_le _, Nat.zero_le _⟩ rfl (Nat.le_of_ble_eq_true rfl) rfl dX5_moveClock_30 ?_
      refine r_if_ne (tgt := 39) dX5_moveClock_33 (by decide) (fun h33 => ?_) (fun h33 => ?_)
      · replace hg := (if_neg h33).symm.trans hg
        exact r_sub [1, 2, 0] rfl (J39 x1 t0 o30.2.1 o30.2.2.1 o30.2.2.2.1 o30.2.2.2.2.1 o30.2.2.2.2.2 hg)
      · replace hg := (if_pos h33).symm.trans hg
        refine r_bipush (v := (-4)) dX5_moveClock_36 kbp_m4 ?_
        exact r_iret (hE _ (Option.some.inj hg)) dX5_moveClock_38
  unfold g_X5_moveClock at hg
  show AtK X Z rm_X5_moveClock cX5_moveClock RX5 3 0 0 (wP Z a w er fl me p pr) 0 [(0, .ref (a 0)), (1, .int n1)] []
  refine r_iload_n dX5_moveClock_0 1 rfl ?_
  refine r_aload_n dX5_moveClock_1 0 rfl ?_
  refine gf_X5_4 (v := .int (pr 1)) 0 rfl rfl qw_103 dX5_moveClock_2 ?_
  refine r_isub dX5_moveClock_5 ?_
  refine r_mabs qw_362 qw_363 qw_21 qw_364 (Nat.le_of_ble_eq_true rfl) (Nat.le_of_ble_eq_true rfl) (Nat.zero_le _) (Nat.zero_le _) dX5_moveClock_6 ?_
  refine r_iconst (v := 5) dX5_moveClock_9 kic_5 ?_
  refine r_icmp_lt (tgt := 17) dX5_moveClock_10 (by decide) (fun h10 => ?_) (fun h10 => ?_)
  · replace hg := (if_pos h10).symm.trans hg
    refine r_iconst (v := 0) dX5_moveClock_17 kic_0 ?_
    exact r_sub [0, 1] rfl (J18 n1 0 w er fl me pr hg)
  · replace hg := (if_neg h10).symm.trans hg
    refine r_iconst (v := 1) dX5_moveClock_13 kic_1 ?_
    refine r_goto (tgt := 18) dX5_moveClock_14 (by decide) ?_
    exact r_sub [0, 1] rfl (J18 n1 1 w er fl me pr hg)
end
section
-- TicketJournal$Journal.setDetail(II)V
abbrev rm_X2_setDetail : Room := { frames := 0, cells := 0, slots := 0, locals := 0 }
def g_X2_setDetail (d : Nat → Int32) (jc : Int32) (n1 : Int32) (n2 : Int32) : Option ((Nat → Int32)) :=
  (if ((jc * 6) + n1) < 0 then some (d) else (if 120 ≤ ((jc * 6) + n1) then some (d) else (if ((jc * 6) + n1) < 0 ∨ 120 ≤ ((jc * 6) + n1).toNatClampNeg then none else some ((upd d (((jc * 6) + n1).toNatClampNeg) n2)))))
set_option maxHeartbeats 4000000 in
set_option maxRecDepth 100000 in
theorem c_X2_setDetail (Z : GZ) (l : Launch) (hj : Nat) (hd : Nat) (d : Nat → Int32) (jc : Int32) (n1 : Int32) (n2 : Int32) (o : ((Nat → Int32))) (hg : g_X2_setDetail d jc n1 n2 = some o) : Con Z l yX2_setDetail cX2_setDetail 4 none rm_X2_setDetail [.ref hj, .int n1, .int n2] (wJ Z hj hd d jc) none (wJ Z hj hd o jc) := by
  refine Con.of (by decide) (Nat.le_of_ble_eq_true rfl) ?_
  intro X hE0
  have hE : ∀ z, z = o → endsX X Z none none (wJ Z hj hd z jc) := by
    rintro _ rfl; exact hE0
  unfold g_X2_setDetail at hg
  show AtK X Z rm_X2_setDetail cX2_setDetail RX2 4 0 0 (wJ Z hj hd d jc) 0 [(0, .ref hj), (1, .int n1), (2, .int n2)] []
  refine r_aload_n dX2_setDetail_0 0 rfl ?_
  refine gf_X2_1 (v := .int jc) 0 rfl rfl qw_131 dX2_setDetail_1 ?_
  refine r_bipush (v := 6) dX2_setDetail_4 kbp_6 ?_
  refine r_imul dX2_setDetail_6 ?_
  refine r_iload_n dX2_setDetail_7 1 rfl ?_
  refine r_iadd dX2_setDetail_8 ?_
  refine r_istore_n (lv' := [(3, .int ((jc * 6) + n1)), (0, .ref hj), (1, .int n1), (2, .int n2)]) dX2_setDetail_9 (by decide) rfl ?_
  refine r_iload_n dX2_setDetail_10 0 rfl ?_
  refine r_if_lt (tgt := 30) dX2_setDetail_11 (by decide) (fun h11 => ?_) (fun h11 => ?_)
  · replace hg := (if_pos h11).symm.trans hg
    exact r_vret (hE _ (Option.some.inj hg)) dX2_setDetail_30
  · replace hg := (if_neg h11).symm.trans hg
    refine r_iload_n dX2_setDetail_14 0 rfl ?_
    refine r_aload_n dX2_setDetail_15 1 rfl ?_
    refine gf_X2_0 (v := .ref hd) 0 rfl rfl qw_130 dX2_setDetail_16 ?_
    refine r_alen 1 0 rfl rfl (v := 120) (by decide) dX2_setDetail_19 ?_
    refine r_icmp_ge (tgt := 30) dX2_setDetail_20 (by decide) (fun h20 => ?_) (fun h20 => ?_)
    · replace hg := (if_pos h20).symm.trans hg
      exact r_vret (hE _ (Option.some.inj hg)) dX2_setDetail_30
    · replace hg := (if_neg h20).symm.trans hg
      refine r_aload_n dX2_setDetail_23 1 rfl ?_
      refine gf_X2_0 (v := .ref hd) 0 rfl rfl qw_130 dX2_setDetail_24 ?_
      refine r_iload_n dX2_setDetail_27 0 rfl ?_
      refine r_iload_n dX2_setDetail_28 3 rfl ?_
      obtain ⟨hi29, hg⟩ := og hg
      refine r_iast 1 rfl rfl hi29 dX2_setDetail_29 (ws' := wJ Z hj hd (upd d (((jc * 6) + n1).toNatClampNeg) n2) jc) rfl ?_
      exact r_vret (hE _ (Option.some.inj hg)) dX2_setDetail_30

-- TicketJournal$Journal.add(LTicketJournal$Flash;II)V
abbrev rm_X2_add : Room := { frames := 2, cells := 0, slots := 0, locals := 46 }
def g_X2_add (d : Nat → Int32) (jc : Int32) (w : Nat → Int32) (n1 : Int32) (n2 : Int32) : Option ((Nat → Int32) × (Int32)) :=
  (g_X0_recordWord w n1 n2 0).bind fun o4 => (g_X2_setDetail d jc 0 (jrem o4 10000)).bind fun o17 => (g_X2_setDetail o17 jc 1 (o4 / 10000)).bind fun o28 => (g_X0_recordWord w n1 n2 1).bind fun o37 => (g_X2_setDetail o28 jc 2 o37).bind fun o40 => (g_X0_recordWord w n1 n2 2).bind fun o49 => (g_X2_setDetail o40 jc 3 o49).bind fun o52 => (g_X2_setDetail o52 jc 4 n1).bind fun o58 => (g_X2_setDetail o58 jc 5 n2).bind fun o64 => some (o64, (jc + 1))
set_option maxHeartbeats 4000000 in
set_option maxRecDepth 100000 in
theorem c_X2_add (Z : GZ) (l : Launch) (hj : Nat) (hd : Nat) (h : Nat) (hw : Nat) (he : Nat) (d : Nat → Int32) (jc : Int32) (w : Nat → Int32) (er : Nat → Int32) (fl : Nat → Int32) (n1 : Int32) (n2 : Int32) (o : ((Nat → Int32) × (Int32))) (hg : g_X2_add d jc w n1 n2 = some o) : Con Z l yX2_add cX2_add 5 none rm_X2_add [.ref hj, .ref h, .int n1, .int n2] (wJ Z hj hd d jc ++ (wF Z h hw he w er fl)) none (wJ Z hj hd o.1 o.2 ++ (wF Z h hw he w er fl)) := by
  refine Con.of (by decide) (Nat.le_of_ble_eq_true rfl) ?_
  intro X hE0
  have hE : ∀ z, z = o → endsX X Z none none (wJ Z hj hd z.1 z.2 ++ (wF Z h hw he w er fl)) := by
    rintro _ rfl; exact hE0
  unfold g_X2_add at hg
  show AtK X Z rm_X2_add cX2_add RX2 5 0 0 (wJ Z hj hd d jc ++ (wF Z h hw he w er fl)) 0 [(0, .ref hj), (1, .ref h), (2, .int n1), (3, .int n2)] []
  refine r_aload_n dX2_add_0 1 rfl ?_
  refine r_iload_n dX2_add_1 2 rfl ?_
  refine r_iload_n dX2_add_2 3 rfl ?_
  refine r_iconst (v := 0) dX2_add_3 kic_0 ?_
  obtain ⟨o4, e4, hg⟩ := ob hg
  refine r_callV (As := [.int n1, .int n2, .int 0]) (rest := []) (ws' := wJ Z hj hd d jc ++ (wF Z h hw he w er fl)) 0 rfl rfl rfl (fun l => c_X0_recordWord Z l h hw he w er fl n1 n2 0 o4 e4) qw_477 mv_X0_recordWord (xPk.idx [2, 3, 4] rfl rfl rfl rfl rfl) ⟨Nat.le_of_ble_eq_true rfl, Nat.le_of_ble_eq_true rfl⟩ ⟨rfl, rfl⟩ ⟨Nat.zero_le _, Nat.zero_le _⟩ rfl (Nat.le_of_ble_eq_true rfl) rfl dX2_add_4 ?_
  refine r_istore (lv' := [(4, .int o4), (0, .ref hj), (1, .ref h), (2, .int n1), (3, .int n2)]) dX2_add_7 (by decide) rfl ?_
  refine r_aload_n dX2_add_9 1 rfl ?_
  refine r_iconst (v := 0) dX2_add_10 kic_0 ?_
  refine r_iload dX2_add_11 0 rfl ?_
  refine r_sipush (v := 10000) dX2_add_13 ksp_10000 ?_
  refine r_irem dX2_add_16 (by decide) ?_
  obtain ⟨o17, e17, hg⟩ := ob hg
  refine r_callV (As := [.int 0, .int (jrem o4 10000)]) (rest := []) (ws' := wJ Z hj hd o17 jc ++ (wF Z h hw he w er fl)) 0 rfl rfl rfl (fun l => c_X2_setDetail Z l hj hd d jc 0 (jrem o4 10000) o17 e17) qw_478 mv_X2_setDetail (xPk.idx [0, 1] rfl rfl rfl rfl rfl) ⟨Nat.le_of_ble_eq_true rfl, Nat.le_of_ble_eq_true rfl⟩ ⟨rfl, rfl⟩ ⟨Nat.zero_le _, Nat.zero_le _⟩ rfl (Nat.le_of_ble_eq_true rfl) rfl dX2_add_17 ?_
  refine r_aload_n dX2_add_20 1 rfl ?_
  refine r_iconst (v := 1) dX2_add_21 kic_1 ?_
  refine r_iload dX2_add_22 0 rfl ?_
  refine r_sipush (v := 10000) dX2_add_24 ksp_10000 ?_
  refine r_idiv dX2_add_27 (by decide) ?_
  obtain ⟨o28, e28, hg⟩ := ob hg
  refine r_callV (As := [.int 1, .int (o4 / 10000)]) (rest := []) (ws' := wJ Z hj hd o28 jc ++ (wF Z h hw he w er fl)) 0 rfl rfl rfl (fun l => c_X2_setDetail Z l hj hd o17 jc 1 (o4 / 10000) o28 e28) qw_478 mv_X2_setDetail (xPk.idx [0, 1] rfl rfl rfl rfl rfl) ⟨Nat.le_of_ble_eq_true rfl, Nat.le_of_ble_eq_true rfl⟩ ⟨rfl, rfl⟩ ⟨Nat.zero_le _, Nat.zero_le _⟩ rfl (Nat.le_of_ble_eq_true rfl) rfl dX2_add_28 ?_
  refine r_aload_n dX2_add_31 1 rfl ?_
  refine r_iconst (v := 2) dX2_add_32 kic_2 ?_
  refine r_aload_n dX2_add_33 2 rfl ?_
  refine r_iload_n dX2_add_34 3 rfl ?_
  refine r_iload_n dX2_add_35 4 rfl ?_
  refine r_iconst (v := 1) dX2_add_36 kic_1 ?_
  obtain ⟨o37, e37, hg⟩ := ob hg
  refine r_callV (As := [.int n1, .int n2, .int 1]) (rest := [.int 2, .ref hj]) (ws' := wJ Z hj hd o28 jc ++ (wF Z h hw he w er fl)) 0 rfl rfl rfl (fun l => c_X0_recordWord Z l h hw he w er fl n1 n2 1 o37 e37) qw_477 mv_X0_recordWord (xPk.idx [2, 3, 4] rfl rfl rfl rfl rfl) ⟨Nat.le_of_ble_eq_true rfl, Nat.le_of_ble_eq_true rfl⟩ ⟨rfl, rfl⟩ ⟨Nat.zero_le _, Nat.zero_le _⟩ rfl (Nat.le_of_ble_eq_true rfl) rfl dX2_add_37 ?_
  obtain ⟨o40, e40, hg⟩ := ob hg
  refine r_callV (As := [.int 2, .int o37]) (rest := []) (ws' := wJ Z hj hd o40 jc ++ (wF Z h hw he w er fl)) 0 rfl rfl rfl (fun l => c_X2_setDetail Z l hj hd o28 jc 2 o37 o40 e40) qw_478 mv_X2_setDetail (xPk.idx [0, 1] rfl rfl rfl rfl rfl) ⟨Nat.le_of_ble_eq_true rfl, Nat.le_of_ble_eq_true rfl⟩ ⟨rfl, rfl⟩ ⟨Nat.zero_le _, Nat.zero_le _⟩ rfl (Nat.le_of_ble_eq_true rfl) rfl dX2_add_40 ?_
  refine r_aload_n dX2_add_43 1 rfl ?_
  refine r_iconst (v := 3) dX2_add_44 kic_3 ?_
  refine r_aload_n dX2_add_45 2 rfl ?_
  refine r_iload_n dX2_add_46 3 rfl ?_
  refine r_iload_n dX2_add_47 4 rfl ?_
  refine r_iconst (v := 2) dX2_add_48 kic_2 ?_
  obtain ⟨o49, e49, hg⟩ := ob hg
  refine r_callV (As := [.int n1, .int n2, .int 2]) (rest := [.int 3, .ref hj]) (ws' := wJ Z hj hd o40 jc ++ (wF Z h hw he w er fl)) 0 rfl rfl rfl (fun l => c_X0_recordWord Z l h hw he w er fl n1 n2 2 o49 e49) qw_477 mv_X0_recordWord (xPk.idx [2, 3, 4] rfl rfl rfl rfl rfl) ⟨Nat.le_of_ble_eq_true rfl, Nat.le_of_ble_eq_true rfl⟩ ⟨rfl, rfl⟩ ⟨Nat.zero_le _, Nat.zero_le _⟩ rfl (Nat.le_of_ble_eq_true rfl) rfl dX2_add_49 ?_
  obtain ⟨o52, e52, hg⟩ := ob hg
  refine r_callV (As := [.int 3, .int o49]) (rest := []) (ws' := wJ Z hj hd o52 jc ++ (wF Z h hw he w er fl)) 0 rfl rfl rfl (fun l => c_X2_setDetail Z l hj hd o40 jc 3 o49 o52 e52) qw_478 mv_X2_setDetail (xPk.idx [0, 1] rfl rfl rfl rfl rfl) ⟨Nat.le_of_ble_eq_true rfl, Nat.le_of_ble_eq_true rfl⟩ ⟨rfl, rfl⟩ ⟨Nat.zero_le _, Nat.zero_le _⟩ rfl (Nat.le_of_ble_eq_true rfl) rfl dX2_add_52 ?_
  refine r_aload_n dX2_add_55 1 rfl ?_
  refine r_iconst (v := 4) dX2_add_56 kic_4 ?_
  refine r_iload_n dX2_add_57 3 rfl ?_
  obtain ⟨o58, e58, hg⟩ := ob hg
  refine r_callV (As := [.int 4, .int n1]) (rest := []) (ws' := wJ Z hj hd o58 jc ++ (wF Z h hw he w er fl)) 0 rfl rfl rfl (fun l => c_X2_setDetail Z l hj hd o52 jc 4 n1 o58 e58) qw_478 mv_X2_setDetail (xPk.idx [0, 1] rfl rfl rfl rfl rfl) ⟨Nat.le_of_ble_eq_true rfl, Nat.le_of_ble_eq_true rfl⟩ ⟨rfl, rfl⟩ ⟨Nat.zero_le _, Nat.zero_le _⟩ rfl (Nat.le_of_ble_eq_true rfl) rfl dX2_add_58 ?_
  refine r_aload_n dX2_add_61 1 rfl ?_
  refine r_iconst (v := 5) dX2_add_62 kic_5 ?_
  refine r_iload_n dX2_add_63 4 rfl ?_
  obtain ⟨o64, e64, hg⟩ := ob hg
  refine r_callV (As := [.int 5, .int n2]) (rest := []) (ws' := wJ Z hj hd o64 jc ++ (wF Z h hw he w er fl)) 0 rfl rfl rfl (fun l => c_X2_setDetail Z l hj hd o58 jc 5 n2 o64 e64) qw_478 mv_X2_setDetail (xPk.idx [0, 1] rfl rfl rfl rfl rfl) ⟨Nat.le_of_ble_eq_true rfl, Nat.le_of_ble_eq_true rfl⟩ ⟨rfl, rfl⟩ ⟨Nat.zero_le _, Nat.zero_le _⟩ rfl (Nat.le_of_ble_eq_true rfl) rfl dX2_add_64 ?_
  refine r_aload_n dX2_add_67 1 rfl ?_
  refine r_dup dX2_add_68 rfl ?_
  refine gf_X2_1 (v := .int jc) 0 rfl rfl qw_131 dX2_add_69 ?_
  refine r_iconst (v := 1) dX2_add_72 kic_1 ?_
  refine r_iadd dX2_add_73 ?_
  refine pf_X2_1 0 rfl (Nat.le_of_ble_eq_true rfl) qw_131 dX2_add_74 (ws' := wJ Z hj hd o64 (jc + 1) ++ (wF Z h hw he w er fl)) rfl ?_
  exact r_vret (hE _ (Option.some.inj hg)) dX2_add_77

-- TicketJournal$Journal.gather(LTicketJournal$Flash;)LTicketJournal$Journal;
abbrev rm_X2_gather : Room := { frames := 4, cells := 0, slots := 0, locals := 92 }
def g_X2_gather_73 (w : Nat → Int32) (k12 : Int32 → Int32 → (Nat → Int32) → Int32 → Option ((Nat → Int32) × (Int32))) (x2 : Int32) (x3 : Int32) (d : Nat → Int32) (jc : Int32) : Option ((Nat → Int32) × (Int32)) :=
  k12 x2 (x3 + 1) d jc
def g_X2_gather_67 (w : Nat → Int32) (k12 : Int32 → Int32 → (Nat → Int32) → Int32 → Option ((Nat → Int32) × (Int32))) (k35 : Int32 → Int32 → Int32 → Int32 → Int32 → (Nat → Int32) → Int32 → Option ((Nat → Int32) × (Int32))) (x2 : Int32) (x3 : Int32) (x4 : Int32) (x5 : Int32) (x6 : Int32) (d : Nat → Int32) (jc : Int32) : Option ((Nat → Int32) × (Int32)) :=
  k35 x2 x3 x4 x5 (x6 + 1) d jc
def g_X2_gather_35 (w : Nat → Int32) (k12 : Int32 → Int32 → (Nat → Int32) → Int32 → Option ((Nat → Int32) × (Int32))) : Nat → Int32 → Int32 → Int32 → Int32 → Int32 → (Nat → Int32) → Int32 → Option ((Nat → Int32) × (Int32))
  | 0 => fun _ _ _ _ _ _ _ => none
  | n + 1 => fun x2 x3 x4 x5 x6 d jc => (if x5 = 0 then g_X2_gather_73 w k12 x2 x3 d jc else (if 4 ≤ x6 then g_X2_gather_73 w k12 x2 x3 d jc else (g_X0_stateOf w x4 x6).bind fun o51 => (if o51 = 1 then (g_X2_add d jc w x4 x6).bind fun o64 => g_X2_gather_67 w k12 (g_X2_gather_35 w k12 n) x2 x3 x4 x5 x6 o64.1 o64.2 else g_X2_gather_67 w k12 (g_X2_gather_35 w k12 n) x2 x3 x4 x5 x6 d jc)))
def g_X2_gather_12 (w : Nat → Int32)  : Nat → Int32 → Int32 → (Nat → Int32) → Int32 → Option ((Nat → Int32) × (Int32))
  | 0 => fun _ _ _ _ => none
  | n + 1 => fun x2 x3 d jc => (if 5 < x3 then some (d, jc) else (g_X0_isWhole w (jrem (x2 + x3) 5)).bind fun o27 => g_X2_gather_35 w (g_X2_gather_12 w n) 12 x2 x3 (jrem (x2 + x3) 5) o27 0 d jc)
def g_X2_gather (d : Nat → Int32) (jc : Int32) (w : Nat → Int32)  : Option ((Nat → Int32) × (Int32)) :=
  (g_X0_newestBlock w).bind fun o6 => g_X2_gather_12 w 12 o6 1 d 0
set_option maxHeartbeats 4000000 in
set_option maxRecDepth 100000 in
theorem c_X2_gather (Z : GZ) (l : Launch) (hj : Nat) (hd : Nat) (h : Nat) (hw : Nat) (he : Nat) (d : Nat → Int32) (jc : Int32) (w : Nat → Int32) (er : Nat → Int32) (fl : Nat → Int32)  (o : ((Nat → Int32) × (Int32))) (hg : g_X2_gather d jc w = some o) : Con Z l yX2_gather cX2_gather 7 (some (.object "TicketJournal$Journal")) rm_X2_gather [.ref hj, .ref h] (wJ Z hj hd d jc ++ (wF Z h hw he w er fl)) (some (.ref hj)) (wJ Z hj hd o.1 o.2 ++ (wF Z h hw he w er fl)) := by
  refine Con.of (by decide) (Nat.le_of_ble_eq_true rfl) ?_
  intro X hE0
  have hE : ∀ z, z = o → endsX X Z (some (.object "TicketJournal$Journal")) (some (.ref hj)) (wJ Z hj hd z.1 z.2 ++ (wF Z h hw he w er fl)) := by
    rintro _ rfl; exact hE0
  have J73 : ∀ (k12 : Int32 → Int32 → (Nat → Int32) → Int32 → Option ((Nat → Int32) × (Int32))) (hk12 : ∀ (x2 : Int32) (x3 : Int32) (d : Nat → Int32) (jc : Int32), k12 x2 x3 d jc = some o → AtK X Z rm_X2_gather cX2_gather RX2 7 0 0 (wJ Z hj hd d jc ++ (wF Z h hw he w er fl)) 12 [(0, .ref hj), (1, .ref h), (2, .int x2), (3, .int x3)] []), ∀ (x2 : Int32) (x3 : Int32) (d : Nat → Int32) (jc : Int32), g_X2_gather_73 w k12 x2 x3 d jc = some o → AtK X Z rm_X2_gather cX2_gather RX2 7 0 0 (wJ Z hj hd d jc ++ (wF Z h hw he w er fl)) 73 [(0, .ref hj), (1, .ref h), (2, .int x2), (3, .int x3)] [] := by
    intro k12 hk12 x2 x3 d jc hg
    unfold g_X2_gather_73 at hg
    refine r_iinc (v := (x3 + 1)) (lv' := [(3, .int (x3 + 1)), (0, .ref hj), (1, .ref h), (2, .int x2)]) dX2_gather_73 (k := 3) rfl rfl (by decide) rfl ?_
    refine r_goto (tgt := 12) dX2_gather_76 (by decide) ?_
    exact r_sub [1, 2, 3, 0] rfl (hk12 x2 (x3 + 1) d jc hg)
  have J67 : ∀ (k12 : Int32 → Int32 → (Nat → Int32) → Int32 → Option ((Nat → Int32) × (Int32))) (hk12 : ∀ (x2 : Int32) (x3 : Int32) (d : Nat → Int32) (jc : Int32), k12 x2 x3 d jc = some o → AtK X Z rm_X2_gather cX2_gather RX2 7 0 0 (wJ Z hj hd d jc ++ (wF Z h hw he w er fl)) 12 [(0, .ref hj), (1, .ref h), (2, .int x2), (3, .int x3)] []) (k35 : Int32 → Int32 → Int32 → Int32 → Int32 → (Nat → Int32) → Int32 → Option ((Nat → Int32) × (Int32))) (hk35 : ∀ (x2 : Int32) (x3 : Int32) (x4 : Int32) (x5 : Int32) (x6 : Int32) (d : Nat → Int32) (jc : Int32), k35 x2 x3 x4 x5 x6 d jc = some o → AtK X Z rm_X2_gather cX2_gather RX2 7 0 0 (wJ Z hj hd d jc ++ (wF Z h hw he w er fl)) 35 [(0, .ref hj), (1, .ref h), (2, .int x2), (3, .int x3), (4, .int x4), (5, .int x5), (6, .int x6)] []), ∀ (x2 : Int32) (x3 : Int32) (x4 : Int32) (x5 : Int32) (x6 : Int32) (d : Nat → Int32) (jc : Int32), g_X2_gather_67 w k12 k35 x2 x3 x4 x5 x6 d jc = some o → AtK X Z rm_X2_gather cX2_gather RX2 7 0 0 (wJ Z hj hd d jc ++ (wF Z h hw he w er fl)) 67 [(0, .ref hj), (1, .ref h), (2, .int x2), (3, .int x3), (4, .int x4), (5, .int x5), (6, .int x6)] [] := by
    intro k12 hk12 k35 hk35 x2 x3 x4 x5 x6 d jc hg
    unfold g_X2_gather_67 at hg
    refine r_iinc (v := (x6 + 1)) (lv' := [(6, .int (x6 + 1)), (0, .ref hj), (1, .ref h), (2, .int x2), (3, .int x3), (4, .int x4), (5, .int x5)]) dX2_gather_67 (k := 6) rfl rfl (by decide) rfl ?_
    refine r_goto (tgt := 35) dX2_gather_70 (by decide) ?_
    exact r_sub [1, 2, 3, 4, 5, 6, 0] rfl (hk35 x2 x3 x4 x5 (x6 + 1) d jc hg)
  have J35 : ∀ (k12 : Int32 → Int32 → (Nat → Int32) → Int32 → Option ((Nat → Int32) × (Int32))) (hk12 : ∀ (x2 : Int32) (x3 : Int32) (d : Nat → Int32) (jc : Int32), k12 x2 x3 d jc = some o → AtK X Z rm_X2_gather cX2_gather RX2 7 0 0 (wJ Z hj hd d jc ++ (wF Z h hw he w er fl)) 12 [(0, .ref hj), (1, .ref h), (2, .int x2), (3, .int x3)] []) (n : Nat), ∀ (x2 : Int32) (x3 : Int32) (x4 : Int32) (x5 : Int32) (x6 : Int32) (d : Nat → Int32) (jc : Int32), g_X2_gather_35 w k12 n x2 x3 x4 x5 x6 d jc = some o → AtK X Z rm_X2_gather cX2_gather RX2 7 0 0 (wJ Z hj hd d jc ++ (wF Z h hw he w er fl)) 35 [(0, .ref hj), (1, .ref h), (2, .int x2), (3, .int x3), (4, .int x4), (5, .int x5), (6, .int x6)] [] := by
    intro k12 hk12 n
    induction n with
    | zero => intro x2 x3 x4 x5 x6 d jc hg; exact nomatch (show (none : Option _) = some o from hg)
    | succ n ih =>
      intro x2 x3 x4 x5 x6 d jc hg
      unfold g_X2_gather_35 at hg
      refine r_iload dX2_gather_35 5 rfl ?_
      refine r_if_eq (tgt := 73) dX2_gather_37 (by decide) (fun h37 => ?_) (fun h37 => ?_)
      · replace hg := (if_pos h37).symm.trans hg
        exact r_sub [0, 1, 2, 3] rfl (J73 k12 hk12 x2 x3 d jc hg)
      · replace hg := (if_neg h37).symm.trans hg
        refine r_iload dX2_gather_40 6 rfl ?_
        refine r_iconst (v := 4) dX2_gather_42 kic_4 ?_
        refine r_icmp_ge (tgt := 73) dX2_gather_43 (by decide) (fun h43 => ?_) (fun h43 => ?_)
        · replace hg := (if_pos h43).symm.trans hg
          exact r_sub [0, 1, 2, 3] rfl (J73 k12 hk12 x2 x3 d jc hg)
        · replace hg := (if_neg h43).symm.trans hg
          refine r_aload_n dX2_gather_46 1 rfl ?_
          refine r_iload dX2_gather_47 4 rfl ?_
          refine r_iload dX2_gather_49 6 rfl ?_
          obtain ⟨o51, e51, hg⟩ := ob hg
          refine r_callV (As := [.int x4, .int x6]) (rest := []) (ws' := wJ Z hj hd d jc ++ (wF Z h hw he w er fl)) 0 rfl rfl rfl (fun l => c_X0_stateOf Z l h hw he w er fl x4 x6 o51 e51) qw_472 mv_X0_stateOf (xPk.idx [2, 3, 4] rfl rfl rfl rfl rfl) ⟨Nat.le_of_ble_eq_true rfl, Nat.le_of_ble_eq_true rfl⟩ ⟨rfl, rfl⟩ ⟨Nat.zero_le _, Nat.zero_le _⟩ rfl (Nat.le_of_ble_eq_true rfl) rfl dX2_gather_51 ?_
          refine r_iconst (v := 1) dX2_gather_54 kic_1 ?_
          refine r_icmp_ne (tgt := 67) dX2_gather_55 (by decide) (fun h55 => ?_) (fun h55 => ?_)
          · replace hg := (if_neg h55).symm.trans hg
            exact r_sub [0, 1, 2, 3, 4, 5, 6] rfl (J67 k12 hk12 (g_X2_gather_35 w k12 n) ih x2 x3 x4 x5 x6 d jc hg)
          · replace hg := (if_pos h55).symm.trans hg
            refine r_aload_n dX2_gather_58 0 rfl ?_
            refine r_aload_n dX2_gather_59 1 rfl ?_
            refine r_iload dX2_gather_60 4 rfl ?_
            refine r_iload dX2_gather_62 6 rfl ?_
            obtain ⟨o64, e64, hg⟩ := ob hg
            refine r_callV (As := [.ref h, .int x4, .int x6]) (rest := []) (ws' := wJ Z hj hd o64.1 o64.2 ++ (wF Z h hw he w er fl)) 0 rfl rfl rfl (fun l => c_X2_add Z l hj hd h hw he d jc w er fl x4 x6 o64 e64) qw_473 mv_X2_add (xPk.all rfl) ⟨Nat.le_of_ble_eq_true rfl, Nat.le_of_ble_eq_true rfl⟩ ⟨rfl, rfl⟩ ⟨Nat.zero_le _, Nat.zero_le _⟩ rfl (Nat.le_of_ble_eq_true rfl) rfl dX2_gather_64 ?_
            exact r_sub [0, 1, 2, 3, 4, 5, 6] rfl (J67 k12 hk12 (g_X2_gather_35 w k12 n) ih x2 x3 x4 x5 x6 o64.1 o64.2 hg)
  have J12 : ∀ (n : Nat), ∀ (x2 : Int32) (x3 : Int32) (d : Nat → Int32) (jc : Int32), g_X2_gather_12 w n x2 x3 d jc = some o → AtK X Z rm_X2_gather cX2_gather RX2 7 0 0 (wJ Z hj hd d jc ++ (wF Z h hw he w er fl)) 12 [(0, .ref hj), (1, .ref h), (2, .int x2), (3, .int x3)] [] := by
    intro  n
    induction n with
    | zero => intro x2 x3 d jc hg; exact nomatch (show (none : Option _) = some o from hg)
    | succ n ih =>
      intro x2 x3 d jc hg
      unfold g_X2_gather_12 at hg
      refine r_iload_n dX2_gather_12 3 rfl ?_
      refine r_iconst (v := 5) dX2_gather_13 kic_5 ?_
      refine r_icmp_gt (tgt := 79) dX2_gather_14 (by decide) (fun h14 => ?_) (fun h14 => ?_)
      · replace hg := (if_pos h14).symm.trans hg
        refine r_aload_n dX2_gather_79 0 rfl ?_
        exact r_aret (hE _ (Option.some.inj hg)) dX2_gather_80
      · replace hg := (if_neg h14).symm.trans hg
        refine r_iload_n dX2_gather_17 2 rfl ?_
        refine r_iload_n dX2_gather_18 3 rfl ?_
        refine r_iadd dX2_gather_19 ?_
        refine r_iconst (v := 5) dX2_gather_20 kic_5 ?_
        refine r_irem dX2_gather_21 (by decide) ?_
        refine r_istore (lv' := [(4, .int (jrem (x2 + x3) 5)), (0, .ref hj), (1, .ref h), (2, .int x2), (3, .int x3)]) dX2_gather_22 (by decide) rfl ?_
        refine r_aload_n dX2_gather_24 2 rfl ?_
        refine r_iload dX2_gather_25 0 rfl ?_
        obtain ⟨o27, e27, hg⟩ := ob hg
        refine r_callV (As := [.int (jrem (x2 + x3) 5)]) (rest := []) (ws' := wJ Z hj hd d jc ++ (wF Z h hw he w er fl)) 0 rfl rfl rfl (fun l => c_X0_isWhole Z l h hw he w er fl (jrem (x2 + x3) 5) o27 e27) qw_471 mv_X0_isWhole (xPk.idx [2, 3, 4] rfl rfl rfl rfl rfl) ⟨Nat.le_of_ble_eq_true rfl, Nat.le_of_ble_eq_true rfl⟩ ⟨rfl, rfl⟩ ⟨Nat.zero_le _, Nat.zero_le _⟩ rfl (Nat.le_of_ble_eq_true rfl) rfl dX2_gather_27 ?_
        refine r_istore (lv' := [(5, .int o27), (4, .int (jrem (x2 + x3) 5)), (0, .ref hj), (1, .ref h), (2, .int x2), (3, .int x3)]) dX2_gather_30 (by decide) rfl ?_
        refine r_iconst (v := 0) dX2_gather_32 kic_0 ?_
        refine r_istore (lv' := [(6, .int 0), (5, .int o27), (4, .int (jrem (x2 + x3) 5)), (0, .ref hj), (1, .ref h), (2, .int x2), (3, .int x3)]) dX2_gather_33 (by decide) rfl ?_
        exact r_sub [3, 4, 5, 6, 2, 1, 0] rfl (J35 (g_X2_gather_12 w n) ih 12 x2 x3 (jrem (x2 + x3) 5) o27 0 d jc hg)
  unfold g_X2_gather at hg
  show AtK X Z rm_X2_gather cX2_gather RX2 7 0 0 (wJ Z hj hd d jc ++ (wF Z h hw he w er fl)) 0 [(0, .ref hj), (1, .ref h)] []
  refine r_aload_n dX2_gather_0 0 rfl ?_
  refine r_iconst (v := 0) dX2_gather_1 kic_0 ?_
  refine pf_X2_1 0 rfl (Nat.le_of_ble_eq_true rfl) qw_131 dX2_gather_2 (ws' := wJ Z hj hd d 0 ++ (wF Z h hw he w er fl)) rfl ?_
  refine r_aload_n dX2_gather_5 1 rfl ?_
  obtain ⟨o6, e6, hg⟩ := ob hg
  refine r_callV (As := []) (rest := []) (ws' := wJ Z hj hd d 0 ++ (wF Z h hw he w er fl)) 0 rfl rfl rfl (fun l => c_X0_newestBlock Z l h hw he w er fl  o6 e6) qw_470 mv_X0_newestBlock (xPk.idx [2, 3, 4] rfl rfl rfl rfl rfl) ⟨Nat.le_of_ble_eq_true rfl, Nat.le_of_ble_eq_true rfl⟩ ⟨rfl, rfl⟩ ⟨Nat.zero_le _, Nat.zero_le _⟩ rfl (Nat.le_of_ble_eq_true rfl) rfl dX2_gather_6 ?_
  refine r_istore_n (lv' := [(2, .int o6), (0, .ref hj), (1, .ref h)]) dX2_gather_9 (by decide) rfl ?_
  refine r_iconst (v := 1) dX2_gather_10 kic_1 ?_
  refine r_istore_n (lv' := [(3, .int 1), (2, .int o6), (0, .ref hj), (1, .ref h)]) dX2_gather_11 (by decide) rfl ?_
  exact r_sub [2, 3, 1, 0] rfl (J12 12 o6 1 d 0 hg)

-- TicketJournal$Journal.detail(II)I
abbrev rm_X2_detail : Room := { frames := 0, cells := 0, slots := 0, locals := 0 }
def g_X2_detail_41 (d : Nat → Int32) (jc : Int32)   : Option (Int32) :=
  some ((-9))
def g_X2_detail (d : Nat → Int32) (jc : Int32) (n1 : Int32) (n2 : Int32) : Option (Int32) :=
  (if n1 < 0 then g_X2_detail_41 d jc else (if jc ≤ n1 then g_X2_detail_41 d jc else (if ((n1 * 6) + n2) < 0 then g_X2_detail_41 d jc else (if 120 ≤ ((n1 * 6) + n2) then g_X2_detail_41 d jc else (if ((n1 * 6) + n2) < 0 ∨ 120 ≤ ((n1 * 6) + n2).toNatClampNeg then none else some ((d ((n1 * 6) + n2).toNatClampNeg)))))))
set_option maxHeartbeats 4000000 in
set_option maxRecDepth 100000 in
theorem c_X2_detail (Z : GZ) (l : Launch) (hj : Nat) (hd : Nat) (d : Nat → Int32) (jc : Int32) (n1 : Int32) (n2 : Int32) (o : (Int32)) (hg : g_X2_detail d jc n1 n2 = some o) : Con Z l yX2_detail cX2_detail 4 (some .int) rm_X2_detail [.ref hj, .int n1, .int n2] (wJ Z hj hd d jc) (some (.int o)) (wJ Z hj hd d jc) := by
  refine Con.of (by decide) (Nat.le_of_ble_eq_true rfl) ?_
  intro X hE0
  have hE : ∀ z, z = o → endsX X Z (some .int) (some (.int z)) (wJ Z hj hd d jc) := by
    rintro _ rfl; exact hE0
  have J41 : g_X2_detail_41 d jc = some o → AtK X Z rm_X2_detail cX2_detail RX2 4 0 0 (wJ Z hj hd d jc) 41 [] [] := by
    intro  hg
    unfold g_X2_detail_41 at hg
    refine r_bipush (v := (-9)) dX2_detail_41 kbp_m9 ?_
    exact r_iret (hE _ (Option.some.inj hg)) dX2_detail_43
  unfold g_X2_detail at hg
  show AtK X Z rm_X2_detail cX2_detail RX2 4 0 0 (wJ Z hj hd d jc) 0 [(0, .ref hj), (1, .int n1), (2, .int n2)] []
  refine r_iload_n dX2_detail_0 1 rfl ?_
  refine r_bipush (v := 6) dX2_detail_1 kbp_6 ?_
  refine r_imul dX2_detail_3 ?_
  refine r_iload_n dX2_detail_4 2 rfl ?_
  refine r_iadd dX2_detail_5 ?_
  refine r_istore_n (lv' := [(3, .int ((n1 * 6) + n2)), (0, .ref hj), (1, .int n1), (2, .int n2)]) dX2_detail_6 (by decide) rfl ?_
  refine r_iload_n dX2_detail_7 2 rfl ?_
  refine r_if_lt (tgt := 41) dX2_detail_8 (by decide) (fun h8 => ?_) (fun h8 => ?_)
  · replace hg := (if_pos h8).symm.trans hg
    exact r_sub [] rfl (J41 hg)
  · replace hg := (if_neg h8).symm.trans hg
    refine r_iload_n dX2_detail_11 2 rfl ?_
    refine r_aload_n dX2_detail_12 1 rfl ?_
    refine gf_X2_1 (v := .int jc) 0 rfl rfl qw_131 dX2_detail_13 ?_
    refine r_icmp_ge (tgt := 41) dX2_detail_16 (by decide) (fun h16 => ?_) (fun h16 => ?_)
    · replace hg := (if_pos h16).symm.trans hg
      exact r_sub [] rfl (J41 hg)
    · replace hg := (if_neg h16).symm.trans hg
      refine r_iload_n dX2_detail_19 0 rfl ?_
      refine r_if_lt (tgt := 41) dX2_detail_20 (by decide) (fun h20 => ?_) (fun h20 => ?_)
      · replace hg := (if_pos h20).symm.trans hg
        exact r_sub [] rfl (J41 hg)
      · replace hg := (if_neg h20).symm.trans hg
        refine r_iload_n dX2_detail_23 0 rfl ?_
        refine r_aload_n dX2_detail_24 1 rfl ?_
        refine gf_X2_0 (v := .ref hd) 0 rfl rfl qw_130 dX2_detail_25 ?_
        refine r_alen 1 0 rfl rfl (v := 120) (by decide) dX2_detail_28 ?_
        refine r_icmp_ge (tgt := 41) dX2_detail_29 (by decide) (fun h29 => ?_) (fun h29 => ?_)
        · replace hg := (if_pos h29).symm.trans hg
          exact r_sub [] rfl (J41 hg)
        · replace hg := (if_neg h29).symm.trans hg
          refine r_aload_n dX2_detail_32 1 rfl ?_
          refine gf_X2_0 (v := .ref hd) 0 rfl rfl qw_130 dX2_detail_33 ?_
          refine r_iload_n dX2_detail_36 0 rfl ?_
          obtain ⟨hi37, hg⟩ := og hg
          refine r_iald 1 rfl hi37 dX2_detail_37 ?_
          refine r_goto (tgt := 43) dX2_detail_38 (by decide) ?_
          exact r_iret (hE _ (Option.some.inj hg)) dX2_detail_43

-- TicketJournal$Journal.countOf(I)I
abbrev rm_X2_countOf : Room := { frames := 1, cells := 0, slots := 0, locals := 23 }
def g_X2_countOf_25 (d : Nat → Int32) (jc : Int32) (k4 : Int32 → Int32 → Int32 → Option (Int32)) (x1 : Int32) (x2 : Int32) (x3 : Int32) : Option (Int32) :=
  k4 x1 x2 (x3 + 1)
def g_X2_countOf_4 (d : Nat → Int32) (jc : Int32)  : Nat → Int32 → Int32 → Int32 → Option (Int32)
  | 0 => fun _ _ _ => none
  | n + 1 => fun x1 x2 x3 => (if jc ≤ x3 then some (x2) else (g_X2_detail d jc x3 1).bind fun o15 => (if o15 = x1 then g_X2_countOf_25 d jc (g_X2_countOf_4 d jc n) x1 (x2 + 1) x3 else g_X2_countOf_25 d jc (g_X2_countOf_4 d jc n) x1 x2 x3))
def g_X2_countOf (d : Nat → Int32) (jc : Int32) (n1 : Int32) : Option (Int32) :=
  g_X2_countOf_4 d jc 30 n1 0 0
set_option maxHeartbeats 4000000 in
set_option maxRecDepth 100000 in
theorem c_X2_countOf (Z : GZ) (l : Launch) (hj : Nat) (hd : Nat) (d : Nat → Int32) (jc : Int32) (n1 : Int32) (o : (Int32)) (hg : g_X2_countOf d jc n1 = some o) : Con Z l yX2_countOf cX2_countOf 4 (some .int) rm_X2_countOf [.ref hj, .int n1] (wJ Z hj hd d jc) (some (.int o)) (wJ Z hj hd d jc) := by
  refine Con.of (by decide) (Nat.le_of_ble_eq_true rfl) ?_
  intro X hE0
  have hE : ∀ z, z = o → endsX X Z (some .int) (some (.int z)) (wJ Z hj hd d jc) := by
    rintro _ rfl; exact hE0
  have J25 : ∀ (k4 : Int32 → Int32 → Int32 → Option (Int32)) (hk4 : ∀ (x1 : Int32) (x2 : Int32) (x3 : Int32), k4 x1 x2 x3 = some o → AtK X Z rm_X2_countOf cX2_countOf RX2 4 0 0 (wJ Z hj hd d jc) 4 [(0, .ref hj), (1, .int x1), (2, .int x2), (3, .int x3)] []), ∀ (x1 : Int32) (x2 : Int32) (x3 : Int32), g_X2_countOf_25 d jc k4 x1 x2 x3 = some o → AtK X Z rm_X2_countOf cX2_countOf RX2 4 0 0 (wJ Z hj hd d jc) 25 [(0, .ref hj), (1, .int x1), (2, .int x2), (3, .int x3)] [] := by
    intro k4 hk4 x1 x2 x3 hg
    unfold g_X2_countOf_25 at hg
    refine r_iinc (v := (x3 + 1)) (lv' := [(3, .int (x3 + 1)), (0, .ref hj), (1, .int x1), (2, .int x2)]) dX2_countOf_25 (k := 3) rfl rfl (by decide) rfl ?_
    refine r_goto (tgt := 4) dX2_countOf_28 (by decide) ?_
    exact r_sub [1, 2, 3, 0] rfl (hk4 x1 x2 (x3 + 1) hg)
  have J4 : ∀ (n : Nat), ∀ (x1 : Int32) (x2 : Int32) (x3 : Int32), g_X2_countOf_4 d jc n x1 x2 x3 = some o → AtK X Z rm_X2_countOf cX2_countOf RX2 4 0 0 (wJ Z hj hd d jc) 4 [(0, .ref hj), (1, .int x1), (2, .int x2), (3, .int x3)] [] := by
    intro  n
    induction n with
    | zero => intro x1 x2 x3 hg; exact nomatch (show (none : Option _) = some o from hg)
    | succ n ih =>
      intro x1 x2 x3 hg
      unfold g_X2_countOf_4 at hg
      refine r_iload_n dX2_countOf_4 3 rfl ?_
      refine r_aload_n dX2_countOf_5 0 rfl ?_
      refine gf_X2_1 (v := .int jc) 0 rfl rfl qw_131 dX2_countOf_6 ?_
      refine r_icmp_ge (tgt := 31) dX2_countOf_9 (by decide) (fun h9 => ?_) (fun h9 => ?_)
      · replace hg := (if_pos h9).symm.trans hg
        refine r_iload_n dX2_countOf_31 2 rfl ?_
        exact r_iret (hE _ (Option.some.inj hg)) dX2_countOf_32
      · replace hg := (if_neg h9).symm.trans hg
        refine r_aload_n dX2_countOf_12 0 rfl ?_
        refine r_iload_n dX2_countOf_13 3 rfl ?_
        refine r_iconst (v := 1) dX2_countOf_14 kic_1 ?_
        obtain ⟨o15, e15, hg⟩ := ob hg
        refine r_callV (As := [.int x3, .int 1]) (rest := []) (ws' := wJ Z hj hd d jc) 0 rfl rfl rfl (fun l => c_X2_detail Z l hj hd d jc x3 1 o15 e15) qw_486 mv_X2_detail (xPk.all rfl) ⟨Nat.le_of_ble_eq_true rfl, Nat.le_of_ble_eq_true rfl⟩ ⟨rfl, rfl⟩ ⟨Nat.zero_le _, Nat.zero_le _⟩ rfl (Nat.le_of_ble_eq_true rfl) rfl dX2_countOf_15 ?_
        refine r_iload_n dX2_countOf_18 1 rfl ?_
        refine r_icmp_ne (tgt := 25) dX2_countOf_19 (by decide) (fun h19 => ?_) (fun h19 => ?_)
        · replace hg := (if_neg h19).symm.trans hg
          exact r_sub [0, 1, 2, 3] rfl (J25 (g_X2_countOf_4 d jc n) ih x1 x2 x3 hg)
        · replace hg := (if_pos h19).symm.trans hg
          refine r_iinc (v := (x2 + 1)) (lv' := [(2, .int (x2 + 1)), (0, .ref hj), (1, .int x1), (3, .int x3)]) dX2_countOf_22 (k := 2) rfl rfl (by decide) rfl ?_
          exact r_sub [1, 2, 0, 3] rfl (J25 (g_X2_countOf_4 d jc n) ih x1 (x2 + 1) x3 hg)
  unfold g_X2_countOf at hg
  show AtK X Z rm_X2_countOf cX2_countOf RX2 4 0 0 (wJ Z hj hd d jc) 0 [(0, .ref hj), (1, .int n1)] []
  refine r_iconst (v := 0) dX2_countOf_0 kic_0 ?_
  refine r_istore_n (lv' := [(2, .int 0), (0, .ref hj), (1, .int n1)]) dX2_countOf_1 (by decide) rfl ?_
  refine r_iconst (v := 0) dX2_countOf_2 kic_0 ?_
  refine r_istore_n (lv' := [(3, .int 0), (2, .int 0), (0, .ref hj), (1, .int n1)]) dX2_countOf_3 (by decide) rfl ?_
  exact r_sub [2, 3, 1, 0] rfl (J4 30 n1 0 0 hg)

-- TicketJournal$Journal.pricesOf(II)I
abbrev rm_X2_pricesOf : Room := { frames := 1, cells := 0, slots := 0, locals := 23 }
def g_X2_pricesOf_70 (d : Nat → Int32) (jc : Int32) (k5 : Int32 → Int32 → Int32 → Int32 → Option (Int32)) (x1 : Int32) (x2 : Int32) (x3 : Int32) (x4 : Int32) : Option (Int32) :=
  k5 x1 x2 x3 (x4 + 1)
def g_X2_pricesOf_43 (d : Nat → Int32) (jc : Int32) (k5 : Int32 → Int32 → Int32 → Int32 → Option (Int32)) (x1 : Int32) (x2 : Int32) (x3 : Int32) (x4 : Int32) (x5 : Int32) (t0 : Int32) : Option (Int32) :=
  (if t0 = 0 then g_X2_pricesOf_70 d jc k5 x1 x2 x3 x4 else (g_X2_detail d jc x4 1).bind fun o54 => (if o54 = x1 then g_X2_pricesOf_70 d jc k5 x1 x2 (x3 + (jrem x5 1000)) x4 else g_X2_pricesOf_70 d jc k5 x1 x2 x3 x4))
def g_X2_pricesOf_38 (d : Nat → Int32) (jc : Int32) (k5 : Int32 → Int32 → Int32 → Int32 → Option (Int32)) (x1 : Int32) (x2 : Int32) (x3 : Int32) (x4 : Int32) (x5 : Int32) : Option (Int32) :=
  g_X2_pricesOf_43 d jc k5 x1 x2 x3 x4 x5 1
def g_X2_pricesOf_5 (d : Nat → Int32) (jc : Int32)  : Nat → Int32 → Int32 → Int32 → Int32 → Option (Int32)
  | 0 => fun _ _ _ _ => none
  | n + 1 => fun x1 x2 x3 x4 => (if jc ≤ x4 then some (x3) else (g_X2_detail d jc x4 3).bind fun o18 => (if x2 = (-1) then g_X2_pricesOf_38 d jc (g_X2_pricesOf_5 d jc n) x1 x2 x3 x4 o18 else (if (o18 / 1000) = x2 then g_X2_pricesOf_38 d jc (g_X2_pricesOf_5 d jc n) x1 x2 x3 x4 o18 else g_X2_pricesOf_43 d jc (g_X2_pricesOf_5 d jc n) x1 x2 x3 x4 o18 0)))
def g_X2_pricesOf (d : Nat → Int32) (jc : Int32) (n1 : Int32) (n2 : Int32) : Option (Int32) :=
  g_X2_pricesOf_5 d jc 30 n1 n2 0 0
set_option maxHeartbeats 4000000 in
set_option maxRecDepth 100000 in
theorem c_X2_pricesOf (Z : GZ) (l : Launch) (hj : Nat) (hd : Nat) (d : Nat → Int32) (jc : Int32) (n1 : Int32) (n2 : Int32) (o : (Int32)) (hg : g_X2_pricesOf d jc n1 n2 = some o) : Con Z l yX2_pricesOf cX2_pricesOf 7 (some .int) rm_X2_pricesOf [.ref hj, .int n1, .int n2] (wJ Z hj hd d jc) (some (.int o)) (wJ Z hj hd d jc) := by
  refine Con.of (by decide) (Nat.le_of_ble_eq_true rfl) ?_
  intro X hE0
  have hE : ∀ z, z = o → endsX X Z (some .int) (some (.int z)) (wJ Z hj hd d jc) := by
    rintro _ rfl; exact hE0
  have J70 : ∀ (k5 : Int32 → Int32 → Int32 → Int32 → Option (Int32)) (hk5 : ∀ (x1 : Int32) (x2 : Int32) (x3 : Int32) (x4 : Int32), k5 x1 x2 x3 x4 = some o → AtK X Z rm_X2_pricesOf cX2_pricesOf RX2 7 0 0 (wJ Z hj hd d jc) 5 [(0, .ref hj), (1, .int x1), (2, .int x2), (3, .int x3), (4, .int x4)] []), ∀ (x1 : Int32) (x2 : Int32) (x3 : Int32) (x4 : Int32), g_X2_pricesOf_70 d jc k5 x1 x2 x3 x4 = some o → AtK X Z rm_X2_pricesOf cX2_pricesOf RX2 7 0 0 (wJ Z hj hd d jc) 70 [(0, .ref hj), (1, .int x1), (2, .int x2), (3, .int x3), (4, .int x4)] [] := by
    intro k5 hk5 x1 x2 x3 x4 hg
    unfold g_X2_pricesOf_70 at hg
    refine r_iinc (v := (x4 + 1)) (lv' := [(4, .int (x4 + 1)), (0, .ref hj), (1, .int x1), (2, .int x2), (3, .int x3)]) dX2_pricesOf_70 (k := 4) rfl rfl (by decide) rfl ?_
    refine r_goto (tgt := 5) dX2_pricesOf_73 (by decide) ?_
    exact r_sub [1, 2, 3, 4, 0] rfl (hk5 x1 x2 x3 (x4 + 1) hg)
  have J43 : ∀ (k5 : Int32 → Int32 → Int32 → Int32 → Option (Int32)) (hk5 : ∀ (x1 : Int32) (x2 : Int32) (x3 : Int32) (x4 : Int32), k5 x1 x2 x3 x4 = some o → AtK X Z rm_X2_pricesOf cX2_pricesOf RX2 7 0 0 (wJ Z hj hd d jc) 5 [(0, .ref hj), (1, .int x1), (2, .int x2), (3, .int x3), (4, .int x4)] []), ∀ (x1 : Int32) (x2 : Int32) (x3 : Int32) (x4 : Int32) (x5 : Int32) (t0 : Int32), g_X2_pricesOf_43 d jc k5 x1 x2 x3 x4 x5 t0 = some o → AtK X Z rm_X2_pricesOf cX2_pricesOf RX2 7 0 0 (wJ Z hj hd d jc) 43 [(0, .ref hj), (1, .int x1), (2, .int x2), (3, .int x3), (4, .int x4), (5, .int x5)] [.int t0] := by
    intro k5 hk5 x1 x2 x3 x4 x5 t0 hg
    unfold g_X2_pricesOf_43 at hg
    refine r_istore (lv' := [(6, .int t0), (0, .ref hj), (1, .int x1), (2, .int x2), (3, .int x3), (4, .int x4), (5, .int x5)]) dX2_pricesOf_43 (by decide) rfl ?_
    refine r_iload dX2_pricesOf_45 0 rfl ?_
    refine r_if_eq (tgt := 70) dX2_pricesOf_47 (by decide) (fun h47 => ?_) (fun h47 => ?_)
    · replace hg := (if_pos h47).symm.trans hg
      exact r_sub [1, 2, 3, 4, 5] rfl (J70 k5 hk5 x1 x2 x3 x4 hg)
    · replace hg := (if_neg h47).symm.trans hg
      refine r_aload_n dX2_pricesOf_50 1 rfl ?_
      refine r_iload dX2_pricesOf_51 5 rfl ?_
      refine r_iconst (v := 1) dX2_pricesOf_53 kic_1 ?_
      obtain ⟨o54, e54, hg⟩ := ob hg
      refine r_callV (As := [.int x4, .int 1]) (rest := []) (ws' := wJ Z hj hd d jc) 0 rfl rfl rfl (fun l => c_X2_detail Z l hj hd d jc x4 1 o54 e54) qw_486 mv_X2_detail (xPk.all rfl) ⟨Nat.le_of_ble_eq_true rfl, Nat.le_of_ble_eq_true rfl⟩ ⟨rfl, rfl⟩ ⟨Nat.zero_le _, Nat.zero_le _⟩ rfl (Nat.le_of_ble_eq_true rfl) rfl dX2_pricesOf_54 ?_
      refine r_iload_n dX2_pricesOf_57 2 rfl ?_
      refine r_icmp_ne (tgt := 70) dX2_pricesOf_58 (by decide) (fun h58 => ?_) (fun h58 => ?_)
      · replace hg := (if_neg h58).symm.trans hg
        exact r_sub [1, 2, 3, 4, 5] rfl (J70 k5 hk5 x1 x2 x3 x4 hg)
      · replace hg := (if_pos h58).symm.trans hg
        refine r_iload_n dX2_pricesOf_61 4 rfl ?_
        refine r_iload dX2_pricesOf_62 6 rfl ?_
        refine r_sipush (v := 1000) dX2_pricesOf_64 ksp_1000 ?_
        refine r_irem dX2_pricesOf_67 (by decide) ?_
        refine r_iadd dX2_pricesOf_68 ?_
        refine r_istore_n (lv' := [(3, .int (x3 + (jrem x5 1000))), (6, .int t0), (0, .ref hj), (1, .int x1), (2, .int x2), (4, .int x4), (5, .int x5)]) dX2_pricesOf_69 (by decide) rfl ?_
        exact r_sub [2, 3, 4, 0, 5] rfl (J70 k5 hk5 x1 x2 (x3 + (jrem x5 1000)) x4 hg)
  have J38 : ∀ (k5 : Int32 → Int32 → Int32 → Int32 → Option (Int32)) (hk5 : ∀ (x1 : Int32) (x2 : Int32) (x3 : Int32) (x4 : Int32), k5 x1 x2 x3 x4 = some o → AtK X Z rm_X2_pricesOf cX2_pricesOf RX2 7 0 0 (wJ Z hj hd d jc) 5 [(0, .ref hj), (1, .int x1), (2, .int x2), (3, .int x3), (4, .int x4)] []), ∀ (x1 : Int32) (x2 : Int32) (x3 : Int32) (x4 : Int32) (x5 : Int32), g_X2_pricesOf_38 d jc k5 x1 x2 x3 x4 x5 = some o → AtK X Z rm_X2_pricesOf cX2_pricesOf RX2 7 0 0 (wJ Z hj hd d jc) 38 [(0, .ref hj), (1, .int x1), (2, .int x2), (3, .int x3), (4, .int x4), (5, .int x5)] [] := by
    intro k5 hk5 x1 x2 x3 x4 x5 hg
    unfold g_X2_pricesOf_38 at hg
    refine r_iconst (v := 1) dX2_pricesOf_38 kic_1 ?_
    refine r_goto (tgt := 43) dX2_pricesOf_39 (by decide) ?_
    exact r_sub [0, 1, 2, 3, 4, 5] rfl (J43 k5 hk5 x1 x2 x3 x4 x5 1 hg)
  have J5 : ∀ (n : Nat), ∀ (x1 : Int32) (x2 : Int32) (x3 : Int32) (x4 : Int32), g_X2_pricesOf_5 d jc n x1 x2 x3 x4 = some o → AtK X Z rm_X2_pricesOf cX2_pricesOf RX2 7 0 0 (wJ Z hj hd d jc) 5 [(0, .ref hj), (1, .int x1), (2, .int x2), (3, .int x3), (4, .int x4)] [] := by
    intro  n
    induction n with
    | zero => intro x1 x2 x3 x4 hg; exact nomatch (show (none : Option _) = some o from hg)
    | succ n ih =>
      intro x1 x2 x3 x4 hg
      unfold g_X2_pricesOf_5 at hg
      refine r_iload dX2_pricesOf_5 4 rfl ?_
      refine r_aload_n dX2_pricesOf_7 0 rfl ?_
      refine gf_X2_1 (v := .int jc) 0 rfl rfl qw_131 dX2_pricesOf_8 ?_
      refine r_icmp_ge (tgt := 76) dX2_pricesOf_11 (by decide) (fun h11 => ?_) (fun h11 => ?_)
      · replace hg := (if_pos h11).symm.trans hg
        refine r_iload_n dX2_pricesOf_76 3 rfl ?_
        exact r_iret (hE _ (Option.some.inj hg)) dX2_pricesOf_77
      · replace hg := (if_neg h11).symm.trans hg
        refine r_aload_n dX2_pricesOf_14 0 rfl ?_
        refine r_iload dX2_pricesOf_15 4 rfl ?_
        refine r_iconst (v := 3) dX2_pricesOf_17 kic_3 ?_
        obtain ⟨o18, e18, hg⟩ := ob hg
        refine r_callV (As := [.int x4, .int 3]) (rest := []) (ws' := wJ Z hj hd d jc) 0 rfl rfl rfl (fun l => c_X2_detail Z l hj hd d jc x4 3 o18 e18) qw_486 mv_X2_detail (xPk.all rfl) ⟨Nat.le_of_ble_eq_true rfl, Nat.le_of_ble_eq_true rfl⟩ ⟨rfl, rfl⟩ ⟨Nat.zero_le _, Nat.zero_le _⟩ rfl (Nat.le_of_ble_eq_true rfl) rfl dX2_pricesOf_18 ?_
        refine r_istore (lv' := [(5, .int o18), (0, .ref hj), (1, .int x1), (2, .int x2), (3, .int x3), (4, .int x4)]) dX2_pricesOf_21 (by decide) rfl ?_
        refine r_iload_n dX2_pricesOf_23 3 rfl ?_
        refine r_iconst (v := (-1)) dX2_pricesOf_24 kic_m1 ?_
        refine r_icmp_eq (tgt := 38) dX2_pricesOf_25 (by decide) (fun h25 => ?_) (fun h25 => ?_)
        · replace hg := (if_pos h25).symm.trans hg
          exact r_sub [1, 2, 3, 4, 5, 0] rfl (J38 (g_X2_pricesOf_5 d jc n) ih x1 x2 x3 x4 o18 hg)
        · replace hg := (if_neg h25).symm.trans hg
          refine r_iload dX2_pricesOf_28 0 rfl ?_
          refine r_sipush (v := 1000) dX2_pricesOf_30 ksp_1000 ?_
          refine r_idiv dX2_pricesOf_33 (by decide) ?_
          refine r_iload_n dX2_pricesOf_34 3 rfl ?_
          refine r_icmp_ne (tgt := 42) dX2_pricesOf_35 (by decide) (fun h35 => ?_) (fun h35 => ?_)
          · replace hg := (if_neg h35).symm.trans hg
            refine r_iconst (v := 0) dX2_pricesOf_42 kic_0 ?_
            exact r_sub [1, 2, 3, 4, 5, 0] rfl (J43 (g_X2_pricesOf_5 d jc n) ih x1 x2 x3 x4 o18 0 hg)
          · replace hg := (if_pos h35).symm.trans hg
            exact r_sub [1, 2, 3, 4, 5, 0] rfl (J38 (g_X2_pricesOf_5 d jc n) ih x1 x2 x3 x4 o18 hg)
  unfold g_X2_pricesOf at hg
  show AtK X Z rm_X2_pricesOf cX2_pricesOf RX2 7 0 0 (wJ Z hj hd d jc) 0 [(0, .ref hj), (1, .int n1), (2, .int n2)] []
  refine r_iconst (v := 0) dX2_pricesOf_0 kic_0 ?_
  refine r_istore_n (lv' := [(3, .int 0), (0, .ref hj), (1, .int n1), (2, .int n2)]) dX2_pricesOf_1 (by decide) rfl ?_
  refine r_iconst (v := 0) dX2_pricesOf_2 kic_0 ?_
  refine r_istore (lv' := [(4, .int 0), (3, .int 0), (0, .ref hj), (1, .int n1), (2, .int n2)]) dX2_pricesOf_3 (by decide) rfl ?_
  exact r_sub [2, 3, 4, 1, 0] rfl (J5 30 n1 n2 0 0 hg)
end
section
-- TicketJournal$Past.stateAt(I)LTicketJournal$Printer;
abbrev rm_X4_stateAt : Room := { frames := 0, cells := 0, slots := 0, locals := 0 }
def g_X4_stateAt_27    : Option ((Option Nat)) :=
  some none
def g_X4_stateAt  (n1 : Int32) : Option ((Option Nat)) :=
  (if (jrem n1 8) < 0 then g_X4_stateAt_27 else (if 8 ≤ (jrem n1 8) then g_X4_stateAt_27 else (if (jrem n1 8) = 0 then some (some 0) else (if (jrem n1 8) = 1 then some (some 1) else (if (jrem n1 8) = 2 then some (some 2) else (if (jrem n1 8) = 3 then some (some 3) else (if (jrem n1 8) = 4 then some (some 4) else (if (jrem n1 8) = 5 then some (some 5) else (if (jrem n1 8) = 6 then some (some 6) else (if (jrem n1 8) = 7 then some (some 7) else none))))))))))
set_option maxHeartbeats 4000000 in
set_option maxRecDepth 100000 in
theorem c_X4_stateAt (Z : GZ) (l : Launch) (hq : Nat) (hs : Nat) (AD : Nat → Nat → Nat) (pv : Nat → Int32) (n1 : Int32) (o : ((Option Nat))) (hg : g_X4_stateAt n1 = some o) : Con Z l yX4_stateAt cX4_stateAt 3 (some (.object "TicketJournal$Printer")) rm_X4_stateAt [.ref hq, .int n1] (wS Z hq hs AD pv) (some (va_rf (o.map (fun k => AD k 0)))) (wS Z hq hs AD pv) := by
  refine Con.of (by decide) (Nat.le_of_ble_eq_true rfl) ?_
  intro X hE0
  have hE : ∀ z, z = o → endsX X Z (some (.object "TicketJournal$Printer")) (some (va_rf (z.map (fun k => AD k 0)))) (wS Z hq hs AD pv) := by
    rintro _ rfl; exact hE0
  have J27 : g_X4_stateAt_27 = some o → AtK X Z rm_X4_stateAt cX4_stateAt RX4 3 0 0 (wS Z hq hs AD pv) 27 [] [] := by
    intro  hg
    unfold g_X4_stateAt_27 at hg
    refine r_null dX4_stateAt_27 ?_
    exact r_aretq (hE _ (Option.some.inj hg)) (Or.inl rfl) dX4_stateAt_28
  unfold g_X4_stateAt at hg
  show AtK X Z rm_X4_stateAt cX4_stateAt RX4 3 0 0 (wS Z hq hs AD pv) 0 [(0, .ref hq), (1, .int n1)] []
  refine r_iload_n dX4_stateAt_0 1 rfl ?_
  refine r_bipush (v := 8) dX4_stateAt_1 kbp_8 ?_
  refine r_irem dX4_stateAt_3 (by decide) ?_
  refine r_istore_n (lv' := [(2, .int (jrem n1 8)), (0, .ref hq), (1, .int n1)]) dX4_stateAt_4 (by decide) rfl ?_
  refine r_iload_n dX4_stateAt_5 0 rfl ?_
  refine r_if_lt (tgt := 27) dX4_stateAt_6 (by decide) (fun h6 => ?_) (fun h6 => ?_)
  · replace hg := (if_pos h6).symm.trans hg
    exact r_sub [] rfl (J27 hg)
  · replace hg := (if_neg h6).symm.trans hg
    refine r_iload_n dX4_stateAt_9 0 rfl ?_
    refine r_aload_n dX4_stateAt_10 1 rfl ?_
    refine gf_X4_0 (v := .ref hs) 0 rfl rfl qw_146 dX4_stateAt_11 ?_
    refine r_alen 1 1 rfl rfl (v := 8) (by decide) dX4_stateAt_14 ?_
    refine r_icmp_ge (tgt := 27) dX4_stateAt_15 (by decide) (fun h15 => ?_) (fun h15 => ?_)
    · replace hg := (if_pos h15).symm.trans hg
      exact r_sub [] rfl (J27 hg)
    · replace hg := (if_neg h15).symm.trans hg
      refine r_aload_n dX4_stateAt_18 1 rfl ?_
      refine gf_X4_0 (v := .ref hs) 0 rfl rfl qw_146 dX4_stateAt_19 ?_
      refine r_iload_n dX4_stateAt_22 0 rfl ?_
      by_cases h23_0 : (jrem n1 8) = 0
      · replace hg := (if_pos h23_0).symm.trans hg
        refine r_aald 1 1 rfl rfl (by rw [h23_0]; decide) (v := .ref (AD 0 0)) (by rw [h23_0]; rfl) dX4_stateAt_23 ?_
        refine r_goto (tgt := 28) dX4_stateAt_24 (by decide) ?_
        exact r_aretq (hE _ (Option.some.inj hg)) (Or.inr ⟨_, rfl⟩) dX4_stateAt_28
      replace hg := (if_neg h23_0).symm.trans hg
      by_cases h23_1 : (jrem n1 8) = 1
      · replace hg := (if_pos h23_1).symm.trans hg
        refine r_aald 1 1 rfl rfl (by rw [h23_1]; decide) (v := .ref (AD 1 0)) (by rw [h23_1]; rfl) dX4_stateAt_23 ?_
        refine r_goto (tgt := 28) dX4_stateAt_24 (by decide) ?_
        exact r_aretq (hE _ (Option.some.inj hg)) (Or.inr ⟨_, rfl⟩) dX4_stateAt_28
      replace hg := (if_neg h23_1).symm.trans hg
      by_cases h23_2 : (jrem n1 8) = 2
      · replace hg := (if_pos h23_2).symm.trans hg
        refine r_aald 1 1 rfl rfl (by rw [h23_2]; decide) (v := .ref (AD 2 0)) (by rw [h23_2]; rfl) dX4_stateAt_23 ?_
        refine r_goto (tgt := 28) dX4_stateAt_24 (by decide) ?_
        exact r_aretq (hE _ (Option.some.inj hg)) (Or.inr ⟨_, rfl⟩) dX4_stateAt_28
      replace hg := (if_neg h23_2).symm.trans hg
      by_cases h23_3 : (jrem n1 8) = 3
      · replace hg := (if_pos h23_3).symm.trans hg
        refine r_aald 1 1 rfl rfl (by rw [h23_3]; decide) (v := .ref (AD 3 0)) (by rw [h23_3]; rfl) dX4_stateAt_23 ?_
        refine r_goto (tgt := 28) dX4_stateAt_24 (by decide) ?_
        exact r_aretq (hE _ (Option.some.inj hg)) (Or.inr ⟨_, rfl⟩) dX4_stateAt_28
      replace hg := (if_neg h23_3).symm.trans hg
      by_cases h23_4 : (jrem n1 8) = 4
      · replace hg := (if_pos h23_4).symm.trans hg
        refine r_aald 1 1 rfl rfl (by rw [h23_4]; decide) (v := .ref (AD 4 0)) (by rw [h23_4]; rfl) dX4_stateAt_23 ?_
        refine r_goto (tgt := 28) dX4_stateAt_24 (by decide) ?_
        exact r_aretq (hE _ (Option.some.inj hg)) (Or.inr ⟨_, rfl⟩) dX4_stateAt_28
      replace hg := (if_neg h23_4).symm.trans hg
      by_cases h23_5 : (jrem n1 8) = 5
      · replace hg := (if_pos h23_5).symm.trans hg
        refine r_aald 1 1 rfl rfl (by rw [h23_5]; decide) (v := .ref (AD 5 0)) (by rw [h23_5]; rfl) dX4_stateAt_23 ?_
        refine r_goto (tgt := 28) dX4_stateAt_24 (by decide) ?_
        exact r_aretq (hE _ (Option.some.inj hg)) (Or.inr ⟨_, rfl⟩) dX4_stateAt_28
      replace hg := (if_neg h23_5).symm.trans hg
      by_cases h23_6 : (jrem n1 8) = 6
      · replace hg := (if_pos h23_6).symm.trans hg
        refine r_aald 1 1 rfl rfl (by rw [h23_6]; decide) (v := .ref (AD 6 0)) (by rw [h23_6]; rfl) dX4_stateAt_23 ?_
        refine r_goto (tgt := 28) dX4_stateAt_24 (by decide) ?_
        exact r_aretq (hE _ (Option.some.inj hg)) (Or.inr ⟨_, rfl⟩) dX4_stateAt_28
      replace hg := (if_neg h23_6).symm.trans hg
      by_cases h23_7 : (jrem n1 8) = 7
      · replace hg := (if_pos h23_7).symm.trans hg
        refine r_aald 1 1 rfl rfl (by rw [h23_7]; decide) (v := .ref (AD 7 0)) (by rw [h23_7]; rfl) dX4_stateAt_23 ?_
        refine r_goto (tgt := 28) dX4_stateAt_24 (by decide) ?_
        exact r_aretq (hE _ (Option.some.inj hg)) (Or.inr ⟨_, rfl⟩) dX4_stateAt_28
      replace hg := (if_neg h23_7).symm.trans hg
      exact nomatch (show (none : Option _) = some o from hg)

-- TicketJournal$Past.remember(LTicketJournal$Printer;)V
abbrev rm_X4_remember : Room := { frames := 3, cells := 0, slots := 0, locals := 82 }
def g_X4_remember_32 (w : Nat → Int32) (er : Nat → Int32) (fl : Nat → Int32) (me : Nat → Int32) (p : Nat → Int32) (pr : Nat → Int32)  (pv : Nat → Int32) (W8 : Nat → Nat → Int32) (E8 : Nat → Nat → Int32) (F8 : Nat → Nat → Int32) (M8 : Nat → Nat → Int32) (P8 : Nat → Nat → Int32) (R8 : Nat → Nat → Int32) : Option ((Nat → Int32) × (Nat → Nat → Int32) × (Nat → Nat → Int32) × (Nat → Nat → Int32) × (Nat → Nat → Int32) × (Nat → Nat → Int32) × (Nat → Nat → Int32)) :=
  (g_X4_stateAt ((pv 0) + (pv 1))).bind fun o42 => (if o42 = none then some (pv, W8, E8, F8, M8, P8, R8) else (if o42 = (some 0) then (g_X5_copyFrom (W8 0) (E8 0) (F8 0) (M8 0) (P8 0) (R8 0) w er fl me p pr).bind fun o52 => some ((upd pv 1 ((pv 1) + 1)), (va_up W8 0 o52.1), (va_up E8 0 o52.2.1), (va_up F8 0 o52.2.2.1), (va_up M8 0 o52.2.2.2.1), (va_up P8 0 o52.2.2.2.2.1), (va_up R8 0 o52.2.2.2.2.2)) else (if o42 = (some 1) then (g_X5_copyFrom (W8 1) (E8 1) (F8 1) (M8 1) (P8 1) (R8 1) w er fl me p pr).bind fun o52 => some ((upd pv 1 ((pv 1) + 1)), (va_up W8 1 o52.1), (va_up E8 1 o52.2.1), (va_up F8 1 o52.2.2.1), (va_up M8 1 o52.2.2.2.1), (va_up P8 1 o52.2.2.2.2.1), (va_up R8 1 o52.2.2.2.2.2)) else (if o42 = (some 2) then (g_X5_copyFrom (W8 2) (E8 2) (F8 2) (M8 2) (P8 2) (R8 2) w er fl me p pr).bind fun o52 => some ((upd pv 1 ((pv 1) + 1)), (va_up W8 2 o52.1), (va_up E8 2 o52.2.1), (va_up F8 2 o52.2.2.1), (va_up M8 2 o52.2.2.2.1), (va_up P8 2 o52.2.2.2.2.1), (va_up R8 2 o52.2.2.2.2.2)) else (if o42 = (some 3) then (g_X5_copyFrom (W8 3) (E8 3) (F8 3) (M8 3) (P8 3) (R8 3) w er fl me p pr).bind fun o52 => some ((upd pv 1 ((pv 1) + 1)), (va_up W8 3 o52.1), (va_up E8 3 o52.2.1), (va_up F8 3 o52.2.2.1), (va_up M8 3 o52.2.2.2.1), (va_up P8 3 o52.2.2.2.2.1), (va_up R8 3 o52.2.2.2.2.2)) else (if o42 = (some 4) then (g_X5_copyFrom (W8 4) (E8 4) (F8 4) (M8 4) (P8 4) (R8 4) w er fl me p pr).bind fun o52 => some ((upd pv 1 ((pv 1) + 1)), (va_up W8 4 o52.1), (va_up E8 4 o52.2.1), (va_up F8 4 o52.2.2.1), (va_up M8 4 o52.2.2.2.1), (va_up P8 4 o52.2.2.2.2.1), (va_up R8 4 o52.2.2.2.2.2)) else (if o42 = (some 5) then (g_X5_copyFrom (W8 5) (E8 5) (F8 5) (M8 5) (P8 5) (R8 5) w er fl me p pr).bind fun o52 => some ((upd pv 1 ((pv 1) + 1)), (va_up W8 5 o52.1), (va_up E8 5 o52.2.1), (va_up F8 5 o52.2.2.1), (va_up M8 5 o52.2.2.2.1), (va_up P8 5 o52.2.2.2.2.1), (va_up R8 5 o52.2.2.2.2.2)) else (if o42 = (some 6) then (g_X5_copyFrom (W8 6) (E8 6) (F8 6) (M8 6) (P8 6) (R8 6) w er fl me p pr).bind fun o52 => some ((upd pv 1 ((pv 1) + 1)), (va_up W8 6 o52.1), (va_up E8 6 o52.2.1), (va_up F8 6 o52.2.2.1), (va_up M8 6 o52.2.2.2.1), (va_up P8 6 o52.2.2.2.2.1), (va_up R8 6 o52.2.2.2.2.2)) else (if o42 = (some 7) then (g_X5_copyFrom (W8 7) (E8 7) (F8 7) (M8 7) (P8 7) (R8 7) w er fl me p pr).bind fun o52 => some ((upd pv 1 ((pv 1) + 1)), (va_up W8 7 o52.1), (va_up E8 7 o52.2.1), (va_up F8 7 o52.2.2.1), (va_up M8 7 o52.2.2.2.1), (va_up P8 7 o52.2.2.2.2.1), (va_up R8 7 o52.2.2.2.2.2)) else none)))))))))
def g_X4_remember (pv : Nat → Int32) (W8 : Nat → Nat → Int32) (E8 : Nat → Nat → Int32) (F8 : Nat → Nat → Int32) (M8 : Nat → Nat → Int32) (P8 : Nat → Nat → Int32) (R8 : Nat → Nat → Int32) (w : Nat → Int32) (er : Nat → Int32) (fl : Nat → Int32) (me : Nat → Int32) (p : Nat → Int32) (pr : Nat → Int32)  : Option ((Nat → Int32) × (Nat → Nat → Int32) × (Nat → Nat → Int32) × (Nat → Nat → Int32) × (Nat → Nat → Int32) × (Nat → Nat → Int32) × (Nat → Nat → Int32)) :=
  (if (pv 1) = 8 then g_X4_remember_32 w er fl me p pr (upd (upd pv 0 (jrem ((pv 0) + 1) 8)) 1 ((pv 1) - 1)) W8 E8 F8 M8 P8 R8 else g_X4_remember_32 w er fl me p pr pv W8 E8 F8 M8 P8 R8)
set_option maxHeartbeats 4000000 in
set_option maxRecDepth 100000 in
theorem c_X4_remember (Z : GZ) (l : Launch) (hq : Nat) (hs : Nat) (AD : Nat → Nat → Nat) (a : Nat → Nat) (pv : Nat → Int32) (W8 : Nat → Nat → Int32) (E8 : Nat → Nat → Int32) (F8 : Nat → Nat → Int32) (M8 : Nat → Nat → Int32) (P8 : Nat → Nat → Int32) (R8 : Nat → Nat → Int32) (w : Nat → Int32) (er : Nat → Int32) (fl : Nat → Int32) (me : Nat → Int32) (p : Nat → Int32) (pr : Nat → Int32)  (o : ((Nat → Int32) × (Nat → Nat → Int32) × (Nat → Nat → Int32) × (Nat → Nat → Int32) × (Nat → Nat → Int32) × (Nat → Nat → Int32) × (Nat → Nat → Int32))) (hg : g_X4_remember pv W8 E8 F8 M8 P8 R8 w er fl me p pr = some o) : Con Z l yX4_remember cX4_remember 3 none rm_X4_remember [.ref hq, .ref (a 0)] (wS Z hq hs AD pv ++ (wP Z (AD 0) (W8 0) (E8 0) (F8 0) (M8 0) (P8 0) (R8 0) ++ (wP Z (AD 1) (W8 1) (E8 1) (F8 1) (M8 1) (P8 1) (R8 1) ++ (wP Z (AD 2) (W8 2) (E8 2) (F8 2) (M8 2) (P8 2) (R8 2) ++ (wP Z (AD 3) (W8 3) (E8 3) (F8 3) (M8 3) (P8 3) (R8 3) ++ (wP Z (AD 4) (W8 4) (E8 4) (F8 4) (M8 4) (P8 4) (R8 4) ++ (wP Z (AD 5) (W8 5) (E8 5) (F8 5) (M8 5) (P8 5) (R8 5) ++ (wP Z (AD 6) (W8 6) (E8 6) (F8 6) (M8 6) (P8 6) (R8 6) ++ (wP Z (AD 7) (W8 7) (E8 7) (F8 7) (M8 7) (P8 7) (R8 7) ++ (wP Z a w er fl me p pr)))))))))) none (wS Z hq hs AD o.1 ++ (wP Z (AD 0) (o.2.1 0) (o.2.2.1 0) (o.2.2.2.1 0) (o.2.2.2.2.1 0) (o.2.2.2.2.2.1 0) (o.2.2.2.2.2.2 0) ++ (wP Z (AD 1) (o.2.1 1) (o.2.2.1 1) (o.2.2.2.1 1) (o.2.2.2.2.1 1) (o.2.2.2.2.2.1 1) (o.2.2.2.2.2.2 1) ++ (wP Z (AD 2) (o.2.1 2) (o.2.2.1 2) (o.2.2.2.1 2) (o.2.2.2.2.1 2) (o.2.2.2.2.2.1 2) (o.2.2.2.2.2.2 2) ++ (wP Z (AD 3) (o.2.1 3) (o.2.2.1 3) (o.2.2.2.1 3) (o.2.2.2.2.1 3) (o.2.2.2.2.2.1 3) (o.2.2.2.2.2.2 3) ++ (wP Z (AD 4) (o.2.1 4) (o.2.2.1 4) (o.2.2.2.1 4) (o.2.2.2.2.1 4) (o.2.2.2.2.2.1 4) (o.2.2.2.2.2.2 4) ++ (wP Z (AD 5) (o.2.1 5) (o.2.2.1 5) (o.2.2.2.1 5) (o.2.2.2.2.1 5) (o.2.2.2.2.2.1 5) (o.2.2.2.2.2.2 5) ++ (wP Z (AD 6) (o.2.1 6) (o.2.2.1 6) (o.2.2.2.1 6) (o.2.2.2.2.1 6) (o.2.2.2.2.2.1 6) (o.2.2.2.2.2.2 6) ++ (wP Z (AD 7) (o.2.1 7) (o.2.2.1 7) (o.2.2.2.1 7) (o.2.2.2.2.1 7) (o.2.2.2.2.2.1 7) (o.2.2.2.2.2.2 7) ++ (wP Z a w er fl me p pr)))))))))) := by
  refine Con.of (by decide) (Nat.le_of_ble_eq_true rfl) ?_
  intro X hE0
  have hE : ∀ z, z = o → endsX X Z none none (wS Z hq hs AD z.1 ++ (wP Z (AD 0) (z.2.1 0) (z.2.2.1 0) (z.2.2.2.1 0) (z.2.2.2.2.1 0) (z.2.2.2.2.2.1 0) (z.2.2.2.2.2.2 0) ++ (wP Z (AD 1) (z.2.1 1) (z.2.2.1 1) (z.2.2.2.1 1) (z.2.2.2.2.1 1) (z.2.2.2.2.2.1 1) (z.2.2.2.2.2.2 1) ++ (wP Z (AD 2) (z.2.1 2) (z.2.2.1 2) (z.2.2.2.1 2) (z.2.2.2.2.1 2) (z.2.2.2.2.2.1 2) (z.2.2.2.2.2.2 2) ++ (wP Z (AD 3) (z.2.1 3) (z.2.2.1 3) (z.2.2.2.1 3) (z.2.2.2.2.1 3) (z.2.2.2.2.2.1 3) (z.2.2.2.2.2.2 3) ++ (wP Z (AD 4) (z.2.1 4) (z.2.2.1 4) (z.2.2.2.1 4) (z.2.2.2.2.1 4) (z.2.2.2.2.2.1 4) (z.2.2.2.2.2.2 4) ++ (wP Z (AD 5) (z.2.1 5) (z.2.2.1 5) (z.2.2.2.1 5) (z.2.2.2.2.1 5) (z.2.2.2.2.2.1 5) (z.2.2.2.2.2.2 5) ++ (wP Z (AD 6) (z.2.1 6) (z.2.2.1 6) (z.2.2.2.1 6) (z.2.2.2.2.1 6) (z.2.2.2.2.2.1 6) (z.2.2.2.2.2.2 6) ++ (wP Z (AD 7) (z.2.1 7) (z.2.2.1 7) (z.2.2.2.1 7) (z.2.2.2.2.1 7) (z.2.2.2.2.2.1 7) (z.2.2.2.2.2.2 7) ++ (wP Z a w er fl me p pr)))))))))) := by
    rintro _ rfl; exact hE0
  have J32 : ∀ (pv : Nat → Int32) (W8 : Nat → Nat → Int32) (E8 : Nat → Nat → Int32) (F8 : Nat → Nat → Int32) (M8 : Nat → Nat → Int32) (P8 : Nat → Nat → Int32) (R8 : Nat → Nat → Int32), g_X4_remember_32 w er fl me p pr pv W8 E8 F8 M8 P8 R8 = some o → AtK X Z rm_X4_remember cX4_remember RX4 3 0 0 (wS Z hq hs AD pv ++ (wP Z (AD 0) (W8 0) (E8 0) (F8 0) (M8 0) (P8 0) (R8 0) ++ (wP Z (AD 1) (W8 1) (E8 1) (F8 1) (M8 1) (P8 1) (R8 1) ++ (wP Z (AD 2) (W8 2) (E8 2) (F8 2) (M8 2) (P8 2) (R8 2) ++ (wP Z (AD 3) (W8 3) (E8 3) (F8 3) (M8 3) (P8 3) (R8 3) ++ (wP Z (AD 4) (W8 4) (E8 4) (F8 4) (M8 4) (P8 4) (R8 4) ++ (wP Z (AD 5) (W8 5) (E8 5) (F8 5) (M8 5) (P8 5) (R8 5) ++ (wP Z (AD 6) (W8 6) (E8 6) (F8 6) (M8 6) (P8 6) (R8 6) ++ (wP Z (AD 7) (W8 7) (E8 7) (F8 7) (M8 7) (P8 7) (R8 7) ++ (wP Z a w er fl me p pr)))))))))) 32 [(0, .ref hq), (1, .ref (a 0))] [] := by
    intro pv W8 E8 F8 M8 P8 R8 hg
    unfold g_X4_remember_32 at hg
    refine r_aload_n dX4_remember_32 0 rfl ?_
    refine r_aload_n dX4_remember_33 0 rfl ?_
    refine gf_X4_1 (v := .int (pv 0)) 0 rfl rfl qw_147 dX4_remember_34 ?_
    refine r_aload_n dX4_remember_37 0 rfl ?_
    refine gf_X4_2 (v := .int (pv 1)) 0 rfl rfl qw_148 dX4_remember_38 ?_
    refine r_iadd dX4_remember_41 ?_
    obtain ⟨o42, e42, hg⟩ := ob hg
    refine r_callV (As := [.int ((pv 0) + (pv 1))]) (rest := []) (ws' := wS Z hq hs AD pv ++ (wP Z (AD 0) (W8 0) (E8 0) (F8 0) (M8 0) (P8 0) (R8 0) ++ (wP Z (AD 1) (W8 1) (E8 1) (F8 1) (M8 1) (P8 1) (R8 1) ++ (wP Z (AD 2) (W8 2) (E8 2) (F8 2) (M8 2) (P8 2) (R8 2) ++ (wP Z (AD 3) (W8 3) (E8 3) (F8 3) (M8 3) (P8 3) (R8 3) ++ (wP Z (AD 4) (W8 4) (E8 4) (F8 4) (M8 4) (P8 4) (R8 4) ++ (wP Z (AD 5) (W8 5) (E8 5) (F8 5) (M8 5) (P8 5) (R8 5) ++ (wP Z (AD 6) (W8 6) (E8 6) (F8 6) (M8 6) (P8 6) (R8 6) ++ (wP Z (AD 7) (W8 7) (E8 7) (F8 7) (M8 7) (P8 7) (R8 7) ++ (wP Z a w er fl me p pr)))))))))) 0 rfl rfl rfl (fun l => c_X4_stateAt Z l hq hs AD pv ((pv 0) + (pv 1)) o42 e42) qw_236 mv_X4_stateAt (xPk.idx [0, 1] rfl rfl rfl rfl rfl) ⟨Nat.le_of_ble_eq_true rfl, Nat.le_of_ble_eq_true rfl⟩ ⟨rfl, rfl⟩ ⟨Nat.zero_le _, Nat.zero_le _⟩ rfl (Nat.le_of_ble_eq_true rfl) rfl dX4_remember_42 ?_
    by_cases h42_0 : o42 = none
    · replace hg := (if_pos h42_0).symm.trans hg
      subst h42_0
      refine r_astore_nN (lv' := [(2, .null), (0, .ref hq), (1, .ref (a 0))]) dX4_remember_45 (by decide) rfl ?_
      refine r_aload_nN dX4_remember_46 0 rfl ?_
      refine r_ifnullN (tgt := 65) dX4_remember_47 (by decide) ?_
      exact r_vret (hE _ (Option.some.inj hg)) dX4_remember_65
    replace hg := (if_neg h42_0).symm.trans hg
    by_cases h42_1 : o42 = (some 0)
    · replace hg := (if_pos h42_1).symm.trans hg
      subst h42_1
      refine r_astore_n (lv' := [(2, .ref (AD 0 0)), (0, .ref hq), (1, .ref (a 0))]) dX4_remember_45 (by decide) rfl ?_
      refine r_aload_n dX4_remember_46 0 rfl ?_
      refine r_ifnull dX4_remember_47 ?_
      refine r_aload_n dX4_remember_50 0 rfl ?_
      refine r_aload_n dX4_remember_51 2 rfl ?_
      obtain ⟨o52, e52, hg⟩ := ob hg
      refine r_callV (As := [.ref (a 0)]) (rest := []) (ws' := wS Z hq hs AD pv ++ (wP Z (AD 0) o52.1 o52.2.1 o52.2.2.1 o52.2.2.2.1 o52.2.2.2.2.1 o52.2.2.2.2.2 ++ (wP Z (AD 1) (W8 1) (E8 1) (F8 1) (M8 1) (P8 1) (R8 1) ++ (wP Z (AD 2) (W8 2) (E8 2) (F8 2) (M8 2) (P8 2) (R8 2) ++ (wP Z (AD 3) (W8 3) (E8 3) (F8 3) (M8 3) (P8 3) (R8 3) ++ (wP Z (AD 4) (W8 4) (E8 4) (F8 4) (M8 4) (P8 4) (R8 4) ++ (wP Z (AD 5) (W8 5) (E8 5) (F8 5) (M8 5) (P8 5) (R8 5) ++ (wP Z (AD 6) (W8 6) (E8 6) (F8 6) (M8 6) (P8 6) (R8 6) ++ (wP Z (AD 7) (W8 7) (E8 7) (F8 7) (M8 7) (P8 7) (R8 7) ++ (wP Z a w er fl me p pr)))))))))) 0 rfl rfl rfl (fun l => c_X5_copyFrom Z l (AD 0) a (W8 0) (E8 0) (F8 0) (M8 0) (P8 0) (R8 0) w er fl me p pr  o52 e52) qw_240 mv_X5_copyFrom (xPk.seg2 (wS Z hq hs AD pv) (wP Z (AD 0) (W8 0) (E8 0) (F8 0) (M8 0) (P8 0) (R8 0)) (wP Z (AD 0) o52.1 o52.2.1 o52.2.2.1 o52.2.2.2.1 o52.2.2.2.2.1 o52.2.2.2.2.2) (wP Z (AD 1) (W8 1) (E8 1) (F8 1) (M8 1) (P8 1) (R8 1) ++ (wP Z (AD 2) (W8 2) (E8 2) (F8 2) (M8 2) (P8 2) (R8 2) ++ (wP Z (AD 3) (W8 3) (E8 3) (F8 3) (M8 3) (P8 3) (R8 3) ++ (wP Z (AD 4) (W8 4) (E8 4) (F8 4) (M8 4) (P8 4) (R8 4) ++ (wP Z (AD 5) (W8 5) (E8 5) (F8 5) (M8 5) (P8 5) (R8 5) ++ (wP Z (AD 6) (W8 6) (E8 6) (F8 6) (M8 6) (P8 6) (R8 6) ++ (wP Z (AD 7) (W8 7) (E8 7) (F8 7) (M8 7) (P8 7) (R8 7)))))))) (wP Z a w er fl me p pr) (wP Z a w er fl me p pr) (([] : va_W)) (by simp only [List.append_assoc, List.append_nil, List.nil_append]) (by simp only [List.append_assoc, List.append_nil, List.nil_append]) rfl rfl) ⟨Nat.le_of_ble_eq_true rfl, Nat.le_of_ble_eq_true rfl⟩ ⟨rfl, rfl⟩ ⟨Nat.zero_le _, Nat.zero_le _⟩ rfl (Nat.le_of_ble_eq_true rfl) rfl dX4_remember_52 ?_
      refine r_aload_n dX4_remember_55 1 rfl ?_
      refine r_dup dX4_remember_56 rfl ?_
      refine gf_X4_2 (v := .int (pv 1)) 0 rfl rfl qw_148 dX4_remember_57 ?_
      refine r_iconst (v := 1) dX4_remember_60 kic_1 ?_
      refine r_iadd dX4_remember_61 ?_
      refine pf_X4_2 0 rfl (Nat.le_of_ble_eq_true rfl) qw_148 dX4_remember_62 (ws' := wS Z hq hs AD (upd pv 1 ((pv 1) + 1)) ++ (wP Z (AD 0) o52.1 o52.2.1 o52.2.2.1 o52.2.2.2.1 o52.2.2.2.2.1 o52.2.2.2.2.2 ++ (wP Z (AD 1) (W8 1) (E8 1) (F8 1) (M8 1) (P8 1) (R8 1) ++ (wP Z (AD 2) (W8 2) (E8 2) (F8 2) (M8 2) (P8 2) (R8 2) ++ (wP Z (AD 3) (W8 3) (E8 3) (F8 3) (M8 3) (P8 3) (R8 3) ++ (wP Z (AD 4) (W8 4) (E8 4) (F8 4) (M8 4) (P8 4) (R8 4) ++ (wP Z (AD 5) (W8 5) (E8 5) (F8 5) (M8 5) (P8 5) (R8 5) ++ (wP Z (AD 6) (W8 6) (E8 6) (F8 6) (M8 6) (P8 6) (R8 6) ++ (wP Z (AD 7) (W8 7) (E8 7) (F8 7) (M8 7) (P8 7) (R8 7) ++ (wP Z a w er fl me p pr)))))))))) rfl ?_
      exact r_vret (hE _ (Option.some.inj hg)) dX4_remember_65
    replace hg := (if_neg h42_1).symm.trans hg
    by_cases h42_2 : o42 = (some 1)
    · replace hg := (if_pos h42_2).symm.trans hg
      subst h42_2
      refine r_astore_n (lv' := [(2, .ref (AD 1 0)), (0, .ref hq), (1, .ref (a 0))]) dX4_remember_45 (by decide) rfl ?_
      refine r_aload_n dX4_remember_46 0 rfl ?_
      refine r_ifnull dX4_remember_47 ?_
      refine r_aload_n dX4_remember_50 0 rfl ?_
      refine r_aload_n dX4_remember_51 2 rfl ?_
      obtain ⟨o52, e52, hg⟩ := ob hg
      refine r_callV (As := [.ref (a 0)]) (rest := []) (ws' := wS Z hq hs AD pv ++ (wP Z (AD 0) (W8 0) (E8 0) (F8 0) (M8 0) (P8 0) (R8 0) ++ (wP Z (AD 1) o52.1 o52.2.1 o52.2.2.1 o52.2.2.2.1 o52.2.2.2.2.1 o52.2.2.2.2.2 ++ (wP Z (AD 2) (W8 2) (E8 2) (F8 2) (M8 2) (P8 2) (R8 2) ++ (wP Z (AD 3) (W8 3) (E8 3) (F8 3) (M8 3) (P8 3) (R8 3) ++ (wP Z (AD 4) (W8 4) (E8 4) (F8 4) (M8 4) (P8 4) (R8 4) ++ (wP Z (AD 5) (W8 5) (E8 5) (F8 5) (M8 5) (P8 5) (R8 5) ++ (wP Z (AD 6) (W8 6) (E8 6) (F8 6) (M8 6) (P8 6) (R8 6) ++ (wP Z (AD 7) (W8 7) (E8 7) (F8 7) (M8 7) (P8 7) (R8 7) ++ (wP Z a w er fl me p pr)))))))))) 0 rfl rfl rfl (fun l => c_X5_copyFrom Z l (AD 1) a (W8 1) (E8 1) (F8 1) (M8 1) (P8 1) (R8 1) w er fl me p pr  o52 e52) qw_240 mv_X5_copyFrom (xPk.seg2 (wS Z hq hs AD pv ++ (wP Z (AD 0) (W8 0) (E8 0) (F8 0) (M8 0) (P8 0) (R8 0))) (wP Z (AD 1) (W8 1) (E8 1) (F8 1) (M8 1) (P8 1) (R8 1)) (wP Z (AD 1) o52.1 o52.2.1 o52.2.2.1 o52.2.2.2.1 o52.2.2.2.2.1 o52.2.2.2.2.2) (wP Z (AD 2) (W8 2) (E8 2) (F8 2) (M8 2) (P8 2) (R8 2) ++ (wP Z (AD 3) (W8 3) (E8 3) (F8 3) (M8 3) (P8 3) (R8 3) ++ (wP Z (AD 4) (W8 4) (E8 4) (F8 4) (M8 4) (P8 4) (R8 4) ++ (wP Z (AD 5) (W8 5) (E8 5) (F8 5) (M8 5) (P8 5) (R8 5) ++ (wP Z (AD 6) (W8 6) (E8 6) (F8 6) (M8 6) (P8 6) (R8 6) ++ (wP Z (AD 7) (W8 7) (E8 7) (F8 7) (M8 7) (P8 7) (R8 7))))))) (wP Z a w er fl me p pr) (wP Z a w er fl me p pr) (([] : va_W)) (by simp only [List.append_assoc, List.append_nil, List.nil_append]) (by simp only [List.append_assoc, List.append_nil, List.nil_append]) rfl rfl) ⟨Nat.le_of_ble_eq_true rfl, Nat.le_of_ble_eq_true rfl⟩ ⟨rfl, rfl⟩ ⟨Nat.zero_le _, Nat.zero_le _⟩ rfl (Nat.le_of_ble_eq_true rfl) rfl dX4_remember_52 ?_
      refine r_aload_n dX4_remember_55 1 rfl ?_
      refine r_dup dX4_remember_56 rfl ?_
      refine gf_X4_2 (v := .int (pv 1)) 0 rfl rfl qw_148 dX4_remember_57 ?_
      refine r_iconst (v := 1) dX4_remember_60 kic_1 ?_
      refine r_iadd dX4_remember_61 ?_
      refine pf_X4_2 0 rfl (Nat.le_of_ble_eq_true rfl) qw_148 dX4_remember_62 (ws' := wS Z hq hs AD (upd pv 1 ((pv 1) + 1)) ++ (wP Z (AD 0) (W8 0) (E8 0) (F8 0) (M8 0) (P8 0) (R8 0) ++ (wP Z (AD 1) o52.1 o52.2.1 o52.2.2.1 o52.2.2.2.1 o52.2.2.2.2.1 o52.2.2.2.2.2 ++ (wP Z (AD 2) (W8 2) (E8 2) (F8 2) (M8 2) (P8 2) (R8 2) ++ (wP Z (AD 3) (W8 3) (E8 3) (F8 3) (M8 3) (P8 3) (R8 3) ++ (wP Z (AD 4) (W8 4) (E8 4) (F8 4) (M8 4) (P8 4) (R8 4) ++ (wP Z (AD 5) (W8 5) (E8 5) (F8 5) (M8 5) (P8 5) (R8 5) ++ (wP Z (AD 6) (W8 6) (E8 6) (F8 6) (M8 6) (P8 6) (R8 6) ++ (wP Z (AD 7) (W8 7) (E8 7) (F8 7) (M8 7) (P8 7) (R8 7) ++ (wP Z a w er fl me p pr)))))))))) rfl ?_
      exact r_vret (hE _ (Option.some.inj hg)) dX4_remember_65
    replace hg := (if_neg h42_2).symm.trans hg
    by_cases h42_3 : o42 = (some 2)
    · replace hg := (if_pos h42_3).symm.trans hg
      subst h42_3
      refine r_astore_n (lv' := [(2, .ref (AD 2 0)), (0, .ref hq), (1, .ref (a 0))]) dX4_remember_45 (by decide) rfl ?_
      refine r_aload_n dX4_remember_46 0 rfl ?_
      refine r_ifnull dX4_remember_47 ?_
      refine r_aload_n dX4_remember_50 0 rfl ?_
      refine r_aload_n dX4_remember_51 2 rfl ?_
      obtain ⟨o52, e52, hg⟩ := ob hg
      refine r_callV (As := [.ref (a 0)]) (rest := []) (ws' := wS Z hq hs AD pv ++ (wP Z (AD 0) (W8 0) (E8 0) (F8 0) (M8 0) (P8 0) (R8 0) ++ (wP Z (AD 1) (W8 1) (E8 1) (F8 1) (M8 1) (P8 1) (R8 1) ++ (wP Z (AD 2) o52.1 o52.2.1 o52.2.2.1 o52.2.2.2.1 o52.2.2.2.2.1 o52.2.2.2.2.2 ++ (wP Z (AD 3) (W8 3) (E8 3) (F8 3) (M8 3) (P8 3) (R8 3) ++ (wP Z (AD 4) (W8 4) (E8 4) (F8 4) (M8 4) (P8 4) (R8 4) ++ (wP Z (AD 5) (W8 5) (E8 5) (F8 5) (M8 5) (P8 5) (R8 5) ++ (wP Z (AD 6) (W8 6) (E8 6) (F8 6) (M8 6) (P8 6) (R8 6) ++ (wP Z (AD 7) (W8 7) (E8 7) (F8 7) (M8 7) (P8 7) (R8 7) ++ (wP Z a w er fl me p pr)))))))))) 0 rfl rfl rfl (fun l => c_X5_copyFrom Z l (AD 2) a (W8 2) (E8 2) (F8 2) (M8 2) (P8 2) (R8 2) w er fl me p pr  o52 e52) qw_240 mv_X5_copyFrom (xPk.seg2 (wS Z hq hs AD pv ++ (wP Z (AD 0) (W8 0) (E8 0) (F8 0) (M8 0) (P8 0) (R8 0) ++ (wP Z (AD 1) (W8 1) (E8 1) (F8 1) (M8 1) (P8 1) (R8 1)))) (wP Z (AD 2) (W8 2) (E8 2) (F8 2) (M8 2) (P8 2) (R8 2)) (wP Z (AD 2) o52.1 o52.2.1 o52.2.2.1 o52.2.2.2.1 o52.2.2.2.2.1 o52.2.2.2.2.2) (wP Z (AD 3) (W8 3) (E8 3) (F8 3) (M8 3) (P8 3) (R8 3) ++ (wP Z (AD 4) (W8 4) (E8 4) (F8 4) (M8 4) (P8 4) (R8 4) ++ (wP Z (AD 5) (W8 5) (E8 5) (F8 5) (M8 5) (P8 5) (R8 5) ++ (wP Z (AD 6) (W8 6) (E8 6) (F8 6) (M8 6) (P8 6) (R8 6) ++ (wP Z (AD 7) (W8 7) (E8 7) (F8 7) (M8 7) (P8 7) (R8 7)))))) (wP Z a w er fl me p pr) (wP Z a w er fl me p pr) (([] : va_W)) (by simp only [List.append_assoc, List.append_nil, List.nil_append]) (by simp only [List.append_assoc, List.append_nil, List.nil_append]) rfl rfl) ⟨Nat.le_of_ble_eq_true rfl, Nat.le_of_ble_eq_true rfl⟩ ⟨rfl, rfl⟩ ⟨Nat.zero_le _, Nat.zero_le _⟩ rfl (Nat.le_of_ble_eq_true rfl) rfl dX4_remember_52 ?_
      refine r_aload_n dX4_remember_55 1 rfl ?_
      refine r_dup dX4_remember_56 rfl ?_
      refine gf_X4_2 (v := .int (pv 1)) 0 rfl rfl qw_148 dX4_remember_57 ?_
      refine r_iconst (v := 1) dX4_remember_60 kic_1 ?_
      refine r_iadd dX4_remember_61 ?_
      refine pf_X4_2 0 rfl (Nat.le_of_ble_eq_true rfl) qw_148 dX4_remember_62 (ws' := wS Z hq hs AD (upd pv 1 ((pv 1) + 1)) ++ (wP Z (AD 0) (W8 0) (E8 0) (F8 0) (M8 0) (P8 0) (R8 0) ++ (wP Z (AD 1) (W8 1) (E8 1) (F8 1) (M8 1) (P8 1) (R8 1) ++ (wP Z (AD 2) o52.1 o52.2.1 o52.2.2.1 o52.2.2.2.1 o52.2.2.2.2.1 o52.2.2.2.2.2 ++ (wP Z (AD 3) (W8 3) (E8 3) (F8 3) (M8 3) (P8 3) (R8 3) ++ (wP Z (AD 4) (W8 4) (E8 4) (F8 4) (M8 4) (P8 4) (R8 4) ++ (wP Z (AD 5) (W8 5) (E8 5) (F8 5) (M8 5) (P8 5) (R8 5) ++ (wP Z (AD 6) (W8 6) (E8 6) (F8 6) (M8 6) (P8 6) (R8 6) ++ (wP Z (AD 7) (W8 7) (E8 7) (F8 7) (M8 7) (P8 7) (R8 7) ++ (wP Z a w er fl me p pr)))))))))) rfl ?_
      exact r_vret (hE _ (Option.some.inj hg)) dX4_remember_65
    replace hg := (if_neg h42_3).symm.trans hg
    by_cases h42_4 : o42 = (some 3)
    · replace hg := (if_pos h42_4).symm.trans hg
      subst h42_4
      refine r_astore_n (lv' := [(2, .ref (AD 3 0)), (0, .ref hq), (1, .ref (a 0))]) dX4_remember_45 (by decide) rfl ?_
      refine r_aload_n dX4_remember_46 0 rfl ?_
      refine r_ifnull dX4_remember_47 ?_
      refine r_aload_n dX4_remember_50 0 rfl ?_
      refine r_aload_n dX4_remember_51 2 rfl ?_
      obtain ⟨o52, e52, hg⟩ := ob hg
      refine r_callV (As := [.ref (a 0)]) (rest := []) (ws' := wS Z hq hs AD pv ++ (wP Z (AD 0) (W8 0) (E8 0) (F8 0) (M8 0) (P8 0) (R8 0) ++ (wP Z (AD 1) (W8 1) (E8 1) (F8 1) (M8 1) (P8 1) (R8 1) ++ (wP Z (AD 2) (W8 2) (E8 2) (F8 2) (M8 2) (P8 2) (R8 2) ++ (wP Z (AD 3) o52.1 o52.2.1 o52.2.2.1 o52.2.2.2.1 o52.2.2.2.2.1 o52.2.2.2.2.2 ++ (wP Z (AD 4) (W8 4) (E8 4) (F8 4) (M8 4) (P8 4) (R8 4) ++ (wP Z (AD 5) (W8 5) (E8 5) (F8 5) (M8 5) (P8 5) (R8 5) ++ (wP Z (AD 6) (W8 6) (E8 6) (F8 6) (M8 6) (P8 6) (R8 6) ++ (wP Z (AD 7) (W8 7) (E8 7) (F8 7) (M8 7) (P8 7) (R8 7) ++ (wP Z a w er fl me p pr)))))))))) 0 rfl rfl rfl (fun l => c_X5_copyFrom Z l (AD 3) a (W8 3) (E8 3) (F8 3) (M8 3) (P8 3) (R8 3) w er fl me p pr  o52 e52) qw_240 mv_X5_copyFrom (xPk.seg2 (wS Z hq hs AD pv ++ (wP Z (AD 0) (W8 0) (E8 0) (F8 0) (M8 0) (P8 0) (R8 0) ++ (wP Z (AD 1) (W8 1) (E8 1) (F8 1) (M8 1) (P8 1) (R8 1) ++ (wP Z (AD 2) (W8 2) (E8 2) (F8 2) (M8 2) (P8 2) (R8 2))))) (wP Z (AD 3) (W8 3) (E8 3) (F8 3) (M8 3) (P8 3) (R8 3)) (wP Z (AD 3) o52.1 o52.2.1 o52.2.2.1 o52.2.2.2.1 o52.2.2.2.2.1 o52.2.2.2.2.2) (wP Z (AD 4) (W8 4) (E8 4) (F8 4) (M8 4) (P8 4) (R8 4) ++ (wP Z (AD 5) (W8 5) (E8 5) (F8 5) (M8 5) (P8 5) (R8 5) ++ (wP Z (AD 6) (W8 6) (E8 6) (F8 6) (M8 6) (P8 6) (R8 6) ++ (wP Z (AD 7) (W8 7) (E8 7) (F8 7) (M8 7) (P8 7) (R8 7))))) (wP Z a w er fl me p pr) (wP Z a w er fl me p pr) (([] : va_W)) (by simp only [List.append_assoc, List.append_nil, List.nil_append]) (by simp only [List.append_assoc, List.append_nil, List.nil_append]) rfl rfl) ⟨Nat.le_of_ble_eq_true rfl, Nat.le_of_ble_eq_true rfl⟩ ⟨rfl, rfl⟩ ⟨Nat.zero_le _, Nat.zero_le _⟩ rfl (Nat.le_of_ble_eq_true rfl) rfl dX4_remember_52 ?_
      refine r_aload_n dX4_remember_55 1 rfl ?_
      refine r_dup dX4_remember_56 rfl ?_
      refine gf_X4_2 (v := .int (pv 1)) 0 rfl rfl qw_148 dX4_remember_57 ?_
      refine r_iconst (v := 1) dX4_remember_60 kic_1 ?_
      refine r_iadd dX4_remember_61 ?_
      refine pf_X4_2 0 rfl (Nat.le_of_ble_eq_true rfl) qw_148 dX4_remember_62 (ws' := wS Z hq hs AD (upd pv 1 ((pv 1) + 1)) ++ (wP Z (AD 0) (W8 0) (E8 0) (F8 0) (M8 0) (P8 0) (R8 0) ++ (wP Z (AD 1) (W8 1) (E8 1) (F8 1) (M8 1) (P8 1) (R8 1) ++ (wP Z (AD 2) (W8 2) (E8 2) (F8 2) (M8 2) (P8 2) (R8 2) ++ (wP Z (AD 3) o52.1 o52.2.1 o52.2.2.1 o52.2.2.2.1 o52.2.2.2.2.1 o52.2.2.2.2.2 ++ (wP Z (AD 4) (W8 4) (E8 4) (F8 4) (M8 4) (P8 4) (R8 4) ++ (wP Z (AD 5) (W8 5) (E8 5) (F8 5) (M8 5) (P8 5) (R8 5) ++ (wP Z (AD 6) (W8 6) (E8 6) (F8 6) (M8 6) (P8 6) (R8 6) ++ (wP Z (AD 7) (W8 7) (E8 7) (F8 7) (M8 7) (P8 7) (R8 7) ++ (wP Z a w er fl me p pr)))))))))) rfl ?_
      exact r_vret (hE _ (Option.some.inj hg)) dX4_remember_65
    replace hg := (if_neg h42_4).symm.trans hg
    by_cases h42_5 : o42 = (some 4)
    · replace hg := (if_pos h42_5).symm.trans hg
      subst h42_5
      refine r_astore_n (lv' := [(2, .ref (AD 4 0)), (0, .ref hq), (1, .ref (a 0))]) dX4_remember_45 (by decide) rfl ?_
      refine r_aload_n dX4_remember_46 0 rfl ?_
      refine r_ifnull dX4_remember_47 ?_
      refine r_aload_n dX4_remember_50 0 rfl ?_
      refine r_aload_n dX4_remember_51 2 rfl ?_
      obtain ⟨o52, e52, hg⟩ := ob hg
      refine r_callV (As := [.ref (a 0)]) (rest := []) (ws' := wS Z hq hs AD pv ++ (wP Z (AD 0) (W8 0) (E8 0) (F8 0) (M8 0) (P8 0) (R8 0) ++ (wP Z (AD 1) (W8 1) (E8 1) (F8 1) (M8 1) (P8 1) (R8 1) ++ (wP Z (AD 2) (W8 2) (E8 2) (F8 2) (M8 2) (P8 2) (R8 2) ++ (wP Z (AD 3) (W8 3) (E8 3) (F8 3) (M8 3) (P8 3) (R8 3) ++ (wP Z (AD 4) o52.1 o52.2.1 o52.2.2.1 o52.2.2.2.1 o52.2.2.2.2.1 o52.2.2.2.2.2 ++ (wP Z (AD 5) (W8 5) (E8 5) (F8 5) (M8 5) (P8 5) (R8 5) ++ (wP Z (AD 6) (W8 6) (E8 6) (F8 6) (M8 6) (P8 6) (R8 6) ++ (wP Z (AD 7) (W8 7) (E8 7) (F8 7) (M8 7) (P8 7) (R8 7) ++ (wP Z a w er fl me p pr)))))))))) 0 rfl rfl rfl (fun l => c_X5_copyFrom Z l (AD 4) a (W8 4) (E8 4) (F8 4) (M8 4) (P8 4) (R8 4) w er fl me p pr  o52 e52) qw_240 mv_X5_copyFrom (xPk.seg2 (wS Z hq hs AD pv ++ (wP Z (AD 0) (W8 0) (E8 0) (F8 0) (M8 0) (P8 0) (R8 0) ++ (wP Z (AD 1) (W8 1) (E8 1) (F8 1) (M8 1) (P8 1) (R8 1) ++ (wP Z (AD 2) (W8 2) (E8 2) (F8 2) (M8 2) (P8 2) (R8 2) ++ (wP Z (AD 3) (W8 3) (E8 3) (F8 3) (M8 3) (P8 3) (R8 3)))))) (wP Z (AD 4) (W8 4) (E8 4) (F8 4) (M8 4) (P8 4) (R8 4)) (wP Z (AD 4) o52.1 o52.2.1 o52.2.2.1 o52.2.2.2.1 o52.2.2.2.2.1 o52.2.2.2.2.2) (wP Z (AD 5) (W8 5) (E8 5) (F8 5) (M8 5) (P8 5) (R8 5) ++ (wP Z (AD 6) (W8 6) (E8 6) (F8 6) (M8 6) (P8 6) (R8 6) ++ (wP Z (AD 7) (W8 7) (E8 7) (F8 7) (M8 7) (P8 7) (R8 7)))) (wP Z a w er fl me p pr) (wP Z a w er fl me p pr) (([] : va_W)) (by simp only [List.append_assoc, List.append_nil, List.nil_append]) (by simp only [List.append_assoc, List.append_nil, List.nil_append]) rfl rfl) ⟨Nat.le_of_ble_eq_true rfl, Nat.le_of_ble_eq_true rfl⟩ ⟨rfl, rfl⟩ ⟨Nat.zero_le _, Nat.zero_le _⟩ rfl (Nat.le_of_ble_eq_true rfl) rfl dX4_remember_52 ?_
      refine r_aload_n dX4_remember_55 1 rfl ?_
      refine r_dup dX4_remember_56 rfl ?_
      refine gf_X4_2 (v := .int (pv 1)) 0 rfl rfl qw_148 dX4_remember_57 ?_
      refine r_iconst (v := 1) dX4_remember_60 kic_1 ?_
      refine r_iadd dX4_remember_61 ?_
      refine pf_X4_2 0 rfl (Nat.le_of_ble_eq_true rfl) qw_148 dX4_remember_62 (ws' := wS Z hq hs AD (upd pv 1 ((pv 1) + 1)) ++ (wP Z (AD 0) (W8 0) (E8 0) (F8 0) (M8 0) (P8 0) (R8 0) ++ (wP Z (AD 1) (W8 1) (E8 1) (F8 1) (M8 1) (P8 1) (R8 1) ++ (wP Z (AD 2) (W8 2) (E8 2) (F8 2) (M8 2) (P8 2) (R8 2) ++ (wP Z (AD 3) (W8 3) (E8 3) (F8 3) (M8 3) (P8 3) (R8 3) ++ (wP Z (AD 4) o52.1 o52.2.1 o52.2.2.1 o52.2.2.2.1 o52.2.2.2.2.1 o52.2.2.2.2.2 ++ (wP Z (AD 5) (W8 5) (E8 5) (F8 5) (M8 5) (P8 5) (R8 5) ++ (wP Z (AD 6) (W8 6) (E8 6) (F8 6) (M8 6) (P8 6) (R8 6) ++ (wP Z (AD 7) (W8 7) (E8 7) (F8 7) (M8 7) (P8 7) (R8 7) ++ (wP Z a w er fl me p pr)))))))))) rfl ?_
      exact r_vret (hE _ (Option.some.inj hg)) dX4_remember_65
    replace hg := (if_neg h42_5).symm.trans hg
    by_cases h42_6 : o42 = (some 5)
    · replace hg := (if_pos h42_6).symm.trans hg
      subst h42_6
      refine r_astore_n (lv' := [(2, .ref (AD 5 0)), (0, .ref hq), (1, .ref (a 0))]) dX4_remember_45 (by decide) rfl ?_
      refine r_aload_n dX4_remember_46 0 rfl ?_
      refine r_ifnull dX4_remember_47 ?_
      refine r_aload_n dX4_remember_50 0 rfl ?_
      refine r_aload_n dX4_remember_51 2 rfl ?_
      obtain ⟨o52, e52, hg⟩ := ob hg
      refine r_callV (As := [.ref (a 0)]) (rest := []) (ws' := wS Z hq hs AD pv ++ (wP Z (AD 0) (W8 0) (E8 0) (F8 0) (M8 0) (P8 0) (R8 0) ++ (wP Z (AD 1) (W8 1) (E8 1) (F8 1) (M8 1) (P8 1) (R8 1) ++ (wP Z (AD 2) (W8 2) (E8 2) (F8 2) (M8 2) (P8 2) (R8 2) ++ (wP Z (AD 3) (W8 3) (E8 3) (F8 3) (M8 3) (P8 3) (R8 3) ++ (wP Z (AD 4) (W8 4) (E8 4) (F8 4) (M8 4) (P8 4) (R8 4) ++ (wP Z (AD 5) o52.1 o52.2.1 o52.2.2.1 o52.2.2.2.1 o52.2.2.2.2.1 o52.2.2.2.2.2 ++ (wP Z (AD 6) (W8 6) (E8 6) (F8 6) (M8 6) (P8 6) (R8 6) ++ (wP Z (AD 7) (W8 7) (E8 7) (F8 7) (M8 7) (P8 7) (R8 7) ++ (wP Z a w er fl me p pr)))))))))) 0 rfl rfl rfl (fun l => c_X5_copyFrom Z l (AD 5) a (W8 5) (E8 5) (F8 5) (M8 5) (P8 5) (R8 5) w er fl me p pr  o52 e52) qw_240 mv_X5_copyFrom (xPk.seg2 (wS Z hq hs AD pv ++ (wP Z (AD 0) (W8 0) (E8 0) (F8 0) (M8 0) (P8 0) (R8 0) ++ (wP Z (AD 1) (W8 1) (E8 1) (F8 1) (M8 1) (P8 1) (R8 1) ++ (wP Z (AD 2) (W8 2) (E8 2) (F8 2) (M8 2) (P8 2) (R8 2) ++ (wP Z (AD 3) (W8 3) (E8 3) (F8 3) (M8 3) (P8 3) (R8 3) ++ (wP Z (AD 4) (W8 4) (E8 4) (F8 4) (M8 4) (P8 4) (R8 4))))))) (wP Z (AD 5) (W8 5) (E8 5) (F8 5) (M8 5) (P8 5) (R8 5)) (wP Z (AD 5) o52.1 o52.2.1 o52.2.2.1 o52.2.2.2.1 o52.2.2.2.2.1 o52.2.2.2.2.2) (wP Z (AD 6) (W8 6) (E8 6) (F8 6) (M8 6) (P8 6) (R8 6) ++ (wP Z (AD 7) (W8 7) (E8 7) (F8 7) (M8 7) (P8 7) (R8 7))) (wP Z a w er fl me p pr) (wP Z a w er fl me p pr) (([] : va_W)) (by simp only [List.append_assoc, List.append_nil, List.nil_append]) (by simp only [List.append_assoc, List.append_nil, List.nil_append]) rfl rfl) ⟨Nat.le_of_ble_eq_true rfl, Nat.le_of_ble_eq_true rfl⟩ ⟨rfl, rfl⟩ ⟨Nat.zero_le _, Nat.zero_le _⟩ rfl (Nat.le_of_ble_eq_true rfl) rfl dX4_remember_52 ?_
      refine r_aload_n dX4_remember_55 1 rfl ?_
      refine r_dup dX4_remember_56 rfl ?_
      refine gf_X4_2 (v := .int (pv 1)) 0 rfl rfl qw_148 dX4_remember_57 ?_
      refine r_iconst (v := 1) dX4_remember_60 kic_1 ?_
      refine r_iadd dX4_remember_61 ?_
      refine pf_X4_2 0 rfl (Nat.le_of_ble_eq_true rfl) qw_148 dX4_remember_62 (ws' := wS Z hq hs AD (upd pv 1 ((pv 1) + 1)) ++ (wP Z (AD 0) (W8 0) (E8 0) (F8 0) (M8 0) (P8 0) (R8 0) ++ (wP Z (AD 1) (W8 1) (E8 1) (F8 1) (M8 1) (P8 1) (R8 1) ++ (wP Z (AD 2) (W8 2) (E8 2) (F8 2) (M8 2) (P8 2) (R8 2) ++ (wP Z (AD 3) (W8 3) (E8 3) (F8 3) (M8 3) (P8 3) (R8 3) ++ (wP Z (AD 4) (W8 4) (E8 4) (F8 4) (M8 4) (P8 4) (R8 4) ++ (wP Z (AD 5) o52.1 o52.2.1 o52.2.2.1 o52.2.2.2.1 o52.2.2.2.2.1 o52.2.2.2.2.2 ++ (wP Z (AD 6) (W8 6) (E8 6) (F8 6) (M8 6) (P8 6) (R8 6) ++ (wP Z (AD 7) (W8 7) (E8 7) (F8 7) (M8 7) (P8 7) (R8 7) ++ (wP Z a w er fl me p pr)))))))))) rfl ?_
      exact r_vret (hE _ (Option.some.inj hg)) dX4_remember_65
    replace hg := (if_neg h42_6).symm.trans hg
    by_cases h42_7 : o42 = (some 6)
    · replace hg := (if_pos h42_7).symm.trans hg
      subst h42_7
      refine r_astore_n (lv' := [(2, .ref (AD 6 0)), (0, .ref hq), (1, .ref (a 0))]) dX4_remember_45 (by decide) rfl ?_
      refine r_aload_n dX4_remember_46 0 rfl ?_
      refine r_ifnull dX4_remember_47 ?_
      refine r_aload_n dX4_remember_50 0 rfl ?_
      refine r_aload_n dX4_remember_51 2 rfl ?_
      obtain ⟨o52, e52, hg⟩ := ob hg
      refine r_callV (As := [.ref (a 0)]) (rest := []) (ws' := wS Z hq hs AD pv ++ (wP Z (AD 0) (W8 0) (E8 0) (F8 0) (M8 0) (P8 0) (R8 0) ++ (wP Z (AD 1) (W8 1) (E8 1) (F8 1) (M8 1) (P8 1) (R8 1) ++ (wP Z (AD 2) (W8 2) (E8 2) (F8 2) (M8 2) (P8 2) (R8 2) ++ (wP Z (AD 3) (W8 3) (E8 3) (F8 3) (M8 3) (P8 3) (R8 3) ++ (wP Z (AD 4) (W8 4) (E8 4) (F8 4) (M8 4) (P8 4) (R8 4) ++ (wP Z (AD 5) (W8 5) (E8 5) (F8 5) (M8 5) (P8 5) (R8 5) ++ (wP Z (AD 6) o52.1 o52.2.1 o52.2.2.1 o52.2.2.2.1 o52.2.2.2.2.1 o52.2.2.2.2.2 ++ (wP Z (AD 7) (W8 7) (E8 7) (F8 7) (M8 7) (P8 7) (R8 7) ++ (wP Z a w er fl me p pr)))))))))) 0 rfl rfl rfl (fun l => c_X5_copyFrom Z l (AD 6) a (W8 6) (E8 6) (F8 6) (M8 6) (P8 6) (R8 6) w er fl me p pr  o52 e52) qw_240 mv_X5_copyFrom (xPk.seg2 (wS Z hq hs AD pv ++ (wP Z (AD 0) (W8 0) (E8 0) (F8 0) (M8 0) (P8 0) (R8 0) ++ (wP Z (AD 1) (W8 1) (E8 1) (F8 1) (M8 1) (P8 1) (R8 1) ++ (wP Z (AD 2) (W8 2) (E8 2) (F8 2) (M8 2) (P8 2) (R8 2) ++ (wP Z (AD 3) (W8 3) (E8 3) (F8 3) (M8 3) (P8 3) (R8 3) ++ (wP Z (AD 4) (W8 4) (E8 4) (F8 4) (M8 4) (P8 4) (R8 4) ++ (wP Z (AD 5) (W8 5) (E8 5) (F8 5) (M8 5) (P8 5) (R8 5)))))))) (wP Z (AD 6) (W8 6) (E8 6) (F8 6) (M8 6) (P8 6) (R8 6)) (wP Z (AD 6) o52.1 o52.2.1 o52.2.2.1 o52.2.2.2.1 o52.2.2.2.2.1 o52.2.2.2.2.2) (wP Z (AD 7) (W8 7) (E8 7) (F8 7) (M8 7) (P8 7) (R8 7)) (wP Z a w er fl me p pr) (wP Z a w er fl me p pr) (([] : va_W)) (by simp only [List.append_assoc, List.append_nil, List.nil_append]) (by simp only [List.append_assoc, List.append_nil, List.nil_append]) rfl rfl) ⟨Nat.le_of_ble_eq_true rfl, Nat.le_of_ble_eq_true rfl⟩ ⟨rfl, rfl⟩ ⟨Nat.zero_le _, Nat.zero_le _⟩ rfl (Nat.le_of_ble_eq_true rfl) rfl dX4_remember_52 ?_
      refine r_aload_n dX4_remember_55 1 rfl ?_
      refine r_dup dX4_remember_56 rfl ?_
      refine gf_X4_2 (v := .int (pv 1)) 0 rfl rfl qw_148 dX4_remember_57 ?_
      refine r_iconst (v := 1) dX4_remember_60 kic_1 ?_
      refine r_iadd dX4_remember_61 ?_
      refine pf_X4_2 0 rfl (Nat.le_of_ble_eq_true rfl) qw_148 dX4_remember_62 (ws' := wS Z hq hs AD (upd pv 1 ((pv 1) + 1)) ++ (wP Z (AD 0) (W8 0) (E8 0) (F8 0) (M8 0) (P8 0) (R8 0) ++ (wP Z (AD 1) (W8 1) (E8 1) (F8 1) (M8 1) (P8 1) (R8 1) ++ (wP Z (AD 2) (W8 2) (E8 2) (F8 2) (M8 2) (P8 2) (R8 2) ++ (wP Z (AD 3) (W8 3) (E8 3) (F8 3) (M8 3) (P8 3) (R8 3) ++ (wP Z (AD 4) (W8 4) (E8 4) (F8 4) (M8 4) (P8 4) (R8 4) ++ (wP Z (AD 5) (W8 5) (E8 5) (F8 5) (M8 5) (P8 5) (R8 5) ++ (wP Z (AD 6) o52.1 o52.2.1 o52.2.2.1 o52.2.2.2.1 o52.2.2.2.2.1 o52.2.2.2.2.2 ++ (wP Z (AD 7) (W8 7) (E8 7) (F8 7) (M8 7) (P8 7) (R8 7) ++ (wP Z a w er fl me p pr)))))))))) rfl ?_
      exact r_vret (hE _ (Option.some.inj hg)) dX4_remember_65
    replace hg := (if_neg h42_7).symm.trans hg
    by_cases h42_8 : o42 = (some 7)
    · replace hg := (if_pos h42_8).symm.trans hg
      subst h42_8
      refine r_astore_n (lv' := [(2, .ref (AD 7 0)), (0, .ref hq), (1, .ref (a 0))]) dX4_remember_45 (by decide) rfl ?_
      refine r_aload_n dX4_remember_46 0 rfl ?_
      refine r_ifnull dX4_remember_47 ?_
      refine r_aload_n dX4_remember_50 0 rfl ?_
      refine r_aload_n dX4_remember_51 2 rfl ?_
      obtain ⟨o52, e52, hg⟩ := ob hg
      refine r_callV (As := [.ref (a 0)]) (rest := []) (ws' := wS Z hq hs AD pv ++ (wP Z (AD 0) (W8 0) (E8 0) (F8 0) (M8 0) (P8 0) (R8 0) ++ (wP Z (AD 1) (W8 1) (E8 1) (F8 1) (M8 1) (P8 1) (R8 1) ++ (wP Z (AD 2) (W8 2) (E8 2) (F8 2) (M8 2) (P8 2) (R8 2) ++ (wP Z (AD 3) (W8 3) (E8 3) (F8 3) (M8 3) (P8 3) (R8 3) ++ (wP Z (AD 4) (W8 4) (E8 4) (F8 4) (M8 4) (P8 4) (R8 4) ++ (wP Z (AD 5) (W8 5) (E8 5) (F8 5) (M8 5) (P8 5) (R8 5) ++ (wP Z (AD 6) (W8 6) (E8 6) (F8 6) (M8 6) (P8 6) (R8 6) ++ (wP Z (AD 7) o52.1 o52.2.1 o52.2.2.1 o52.2.2.2.1 o52.2.2.2.2.1 o52.2.2.2.2.2 ++ (wP Z a w er fl me p pr)))))))))) 0 rfl rfl rfl (fun l => c_X5_copyFrom Z l (AD 7) a (W8 7) (E8 7) (F8 7) (M8 7) (P8 7) (R8 7) w er fl me p pr  o52 e52) qw_240 mv_X5_copyFrom (xPk.seg2 (wS Z hq hs AD pv ++ (wP Z (AD 0) (W8 0) (E8 0) (F8 0) (M8 0) (P8 0) (R8 0) ++ (wP Z (AD 1) (W8 1) (E8 1) (F8 1) (M8 1) (P8 1) (R8 1) ++ (wP Z (AD 2) (W8 2) (E8 2) (F8 2) (M8 2) (P8 2) (R8 2) ++ (wP Z (AD 3) (W8 3) (E8 3) (F8 3) (M8 3) (P8 3) (R8 3) ++ (wP Z (AD 4) (W8 4) (E8 4) (F8 4) (M8 4) (P8 4) (R8 4) ++ (wP Z (AD 5) (W8 5) (E8 5) (F8 5) (M8 5) (P8 5) (R8 5) ++ (wP Z (AD 6) (W8 6) (E8 6) (F8 6) (M8 6) (P8 6) (R8 6))))))))) (wP Z (AD 7) (W8 7) (E8 7) (F8 7) (M8 7) (P8 7) (R8 7)) (wP Z (AD 7) o52.1 o52.2.1 o52.2.2.1 o52.2.2.2.1 o52.2.2.2.2.1 o52.2.2.2.2.2) (([] : va_W)) (wP Z a w er fl me p pr) (wP Z a w er fl me p pr) (([] : va_W)) (by simp only [List.append_assoc, List.append_nil, List.nil_append]) (by simp only [List.append_assoc, List.append_nil, List.nil_append]) rfl rfl) ⟨Nat.le_of_ble_eq_true rfl, Nat.le_of_ble_eq_true rfl⟩ ⟨rfl, rfl⟩ ⟨Nat.zero_le _, Nat.zero_le _⟩ rfl (Nat.le_of_ble_eq_true rfl) rfl dX4_remember_52 ?_
      refine r_aload_n dX4_remember_55 1 rfl ?_
      refine r_dup dX4_remember_56 rfl ?_
      refine gf_X4_2 (v := .int (pv 1)) 0 rfl rfl qw_148 dX4_remember_57 ?_
      refine r_iconst (v := 1) dX4_remember_60 kic_1 ?_
      refine r_iadd dX4_remember_61 ?_
      refine pf_X4_2 0 rfl (Nat.le_of_ble_eq_true rfl) qw_148 dX4_remember_62 (ws' := wS Z hq hs AD (upd pv 1 ((pv 1) + 1)) ++ (wP Z (AD 0) (W8 0) (E8 0) (F8 0) (M8 0) (P8 0) (R8 0) ++ (wP Z (AD 1) (W8 1) (E8 1) (F8 1) (M8 1) (P8 1) (R8 1) ++ (wP Z (AD 2) (W8 2) (E8 2) (F8 2) (M8 2) (P8 2) (R8 2) ++ (wP Z (AD 3) (W8 3) (E8 3) (F8 3) (M8 3) (P8 3) (R8 3) ++ (wP Z (AD 4) (W8 4) (E8 4) (F8 4) (M8 4) (P8 4) (R8 4) ++ (wP Z (AD 5) (W8 5) (E8 5) (F8 5) (M8 5) (P8 5) (R8 5) ++ (wP Z (AD 6) (W8 6) (E8 6) (F8 6) (M8 6) (P8 6) (R8 6) ++ (wP Z (AD 7) o52.1 o52.2.1 o52.2.2.1 o52.2.2.2.1 o52.2.2.2.2.1 o52.2.2.2.2.2 ++ (wP Z a w er fl me p pr)))))))))) rfl ?_
      exact r_vret (hE _ (Option.some.inj hg)) dX4_remember_65
    replace hg := (if_neg h42_8).symm.trans hg
    exact nomatch (show (none : Option _) = some o from hg)
  unfold g_X4_remember at hg
  show AtK X Z rm_X4_remember cX4_remember RX4 3 0 0 (wS Z hq hs AD pv ++ (wP Z (AD 0) (W8 0) (E8 0) (F8 0) (M8 0) (P8 0) (R8 0) ++ (wP Z (AD 1) (W8 1) (E8 1) (F8 1) (M8 1) (P8 1) (R8 1) ++ (wP Z (AD 2) (W8 2) (E8 2) (F8 2) (M8 2) (P8 2) (R8 2) ++ (wP Z (AD 3) (W8 3) (E8 3) (F8 3) (M8 3) (P8 3) (R8 3) ++ (wP Z (AD 4) (W8 4) (E8 4) (F8 4) (M8 4) (P8 4) (R8 4) ++ (wP Z (AD 5) (W8 5) (E8 5) (F8 5) (M8 5) (P8 5) (R8 5) ++ (wP Z (AD 6) (W8 6) (E8 6) (F8 6) (M8 6) (P8 6) (R8 6) ++ (wP Z (AD 7) (W8 7) (E8 7) (F8 7) (M8 7) (P8 7) (R8 7) ++ (wP Z a w er fl me p pr)))))))))) 0 [(0, .ref hq), (1, .ref (a 0))] []
  refine r_aload_n dX4_remember_0 0 rfl ?_
  refine gf_X4_2 (v := .int (pv 1)) 0 rfl rfl qw_148 dX4_remember_1 ?_
  refine r_bipush (v := 8) dX4_remember_4 kbp_8 ?_
  refine r_icmp_ne (tgt := 32) dX4_remember_6 (by decide) (fun h6 => ?_) (fun h6 => ?_)
  · replace hg := (if_neg h6).symm.trans hg
    exact r_sub [0, 1] rfl (J32 pv W8 E8 F8 M8 P8 R8 hg)
  · replace hg := (if_pos h6).symm.trans hg
    refine r_aload_n dX4_remember_9 0 rfl ?_
    refine r_aload_n dX4_remember_10 0 rfl ?_
    refine gf_X4_1 (v := .int (pv 0)) 0 rfl rfl qw_147 dX4_remember_11 ?_
    refine r_iconst (v := 1) dX4_remember_14 kic_1 ?_
    refine r_iadd dX4_remember_15 ?_
    refine r_bipush (v := 8) dX4_remember_16 kbp_8 ?_
    refine r_irem dX4_remember_18 (by decide) ?_
    refine pf_X4_1 0 rfl (Nat.le_of_ble_eq_true rfl) qw_147 dX4_remember_19 (ws' := wS Z hq hs AD (upd pv 0 (jrem ((pv 0) + 1) 8)) ++ (wP Z (AD 0) (W8 0) (E8 0) (F8 0) (M8 0) (P8 0) (R8 0) ++ (wP Z (AD 1) (W8 1) (E8 1) (F8 1) (M8 1) (P8 1) (R8 1) ++ (wP Z (AD 2) (W8 2) (E8 2) (F8 2) (M8 2) (P8 2) (R8 2) ++ (wP Z (AD 3) (W8 3) (E8 3) (F8 3) (M8 3) (P8 3) (R8 3) ++ (wP Z (AD 4) (W8 4) (E8 4) (F8 4) (M8 4) (P8 4) (R8 4) ++ (wP Z (AD 5) (W8 5) (E8 5) (F8 5) (M8 5) (P8 5) (R8 5) ++ (wP Z (AD 6) (W8 6) (E8 6) (F8 6) (M8 6) (P8 6) (R8 6) ++ (wP Z (AD 7) (W8 7) (E8 7) (F8 7) (M8 7) (P8 7) (R8 7) ++ (wP Z a w er fl me p pr)))))))))) rfl ?_
    refine r_aload_n dX4_remember_22 0 rfl ?_
    refine r_dup dX4_remember_23 rfl ?_
    refine gf_X4_2 (v := .int (pv 1)) 0 rfl rfl qw_148 dX4_remember_24 ?_
    refine r_iconst (v := 1) dX4_remember_27 kic_1 ?_
    refine r_isub dX4_remember_28 ?_
    refine pf_X4_2 0 rfl (Nat.le_of_ble_eq_true rfl) qw_148 dX4_remember_29 (ws' := wS Z hq hs AD (upd (upd pv 0 (jrem ((pv 0) + 1) 8)) 1 ((pv 1) - 1)) ++ (wP Z (AD 0) (W8 0) (E8 0) (F8 0) (M8 0) (P8 0) (R8 0) ++ (wP Z (AD 1) (W8 1) (E8 1) (F8 1) (M8 1) (P8 1) (R8 1) ++ (wP Z (AD 2) (W8 2) (E8 2) (F8 2) (M8 2) (P8 2) (R8 2) ++ (wP Z (AD 3) (W8 3) (E8 3) (F8 3) (M8 3) (P8 3) (R8 3) ++ (wP Z (AD 4) (W8 4) (E8 4) (F8 4) (M8 4) (P8 4) (R8 4) ++ (wP Z (AD 5) (W8 5) (E8 5) (F8 5) (M8 5) (P8 5) (R8 5) ++ (wP Z (AD 6) (W8 6) (E8 6) (F8 6) (M8 6) (P8 6) (R8 6) ++ (wP Z (AD 7) (W8 7) (E8 7) (F8 7) (M8 7) (P8 7) (R8 7) ++ (wP Z a w er fl me p pr)))))))))) rfl ?_
    exact r_sub [0, 1] rfl (J32 (upd (upd pv 0 (jrem ((pv 0) + 1) 8)) 1 ((pv 1) - 1)) W8 E8 F8 M8 P8 R8 hg)

set_option maxHeartbeats 4000000 in
theorem c_X4_rememberQ (Z : GZ) (l : Launch) (hq : Nat) (hs : Nat) (AD : Nat → Nat → Nat) (a : Nat → Nat) (pv : Nat → Int32) (W8 : Nat → Nat → Int32) (E8 : Nat → Nat → Int32) (F8 : Nat → Nat → Int32) (M8 : Nat → Nat → Int32) (P8 : Nat → Nat → Int32) (R8 : Nat → Nat → Int32) (w : Nat → Int32) (er : Nat → Int32) (fl : Nat → Int32) (me : Nat → Int32) (p : Nat → Int32) (pr : Nat → Int32)  (o : ((Nat → Int32) × (Nat → Nat → Int32) × (Nat → Nat → Int32) × (Nat → Nat → Int32) × (Nat → Nat → Int32) × (Nat → Nat → Int32) × (Nat → Nat → Int32))) (hg : g_X4_remember pv W8 E8 F8 M8 P8 R8 w er fl me p pr = some o) : Con Z l yX4_remember cX4_remember 3 none rm_X4_remember [.ref hq, .ref (a 0)] (wQ Z hq hs AD pv W8 E8 F8 M8 P8 R8 ++ (wP Z a w er fl me p pr)) none (wQ Z hq hs AD o.1 o.2.1 o.2.2.1 o.2.2.2.1 o.2.2.2.2.1 o.2.2.2.2.2.1 o.2.2.2.2.2.2 ++ (wP Z a w er fl me p pr)) := by
  have h9 := c_X4_remember Z l hq hs AD a pv W8 E8 F8 M8 P8 R8 w er fl me p pr o hg
  simpa only [wQ, List.append_assoc] using h9

-- TicketJournal$Past.restore(LTicketJournal$Printer;)V
abbrev rm_X4_restore : Room := { frames := 3, cells := 0, slots := 0, locals := 82 }
def g_X4_restore (w : Nat → Int32) (er : Nat → Int32) (fl : Nat → Int32) (me : Nat → Int32) (p : Nat → Int32) (pr : Nat → Int32) (pv : Nat → Int32) (W8 : Nat → Nat → Int32) (E8 : Nat → Nat → Int32) (F8 : Nat → Nat → Int32) (M8 : Nat → Nat → Int32) (P8 : Nat → Nat → Int32) (R8 : Nat → Nat → Int32)  : Option ((Nat → Int32) × (Nat → Int32) × (Nat → Int32) × (Nat → Int32) × (Nat → Int32) × (Nat → Int32) × (Nat → Int32)) :=
  (if (pv 1) ≤ 0 then some (w, er, fl, me, p, pr, pv) else (g_X4_stateAt (((pv 0) + (pv 1)) - 1)).bind fun o19 => (if o19 = none then some (w, er, fl, me, p, pr, pv) else (if o19 = (some 0) then (g_X5_copyFrom w er fl me p pr (W8 0) (E8 0) (F8 0) (M8 0) (P8 0) (R8 0)).bind fun o33 => some (o33.1, o33.2.1, o33.2.2.1, o33.2.2.2.1, o33.2.2.2.2.1, o33.2.2.2.2.2, (upd pv 1 ((pv 1) - 1))) else (if o19 = (some 1) then (g_X5_copyFrom w er fl me p pr (W8 1) (E8 1) (F8 1) (M8 1) (P8 1) (R8 1)).bind fun o33 => some (o33.1, o33.2.1, o33.2.2.1, o33.2.2.2.1, o33.2.2.2.2.1, o33.2.2.2.2.2, (upd pv 1 ((pv 1) - 1))) else (if o19 = (some 2) then (g_X5_copyFrom w er fl me p pr (W8 2) (E8 2) (F8 2) (M8 2) (P8 2) (R8 2)).bind fun o33 => some (o33.1, o33.2.1, o33.2.2.1, o33.2.2.2.1, o33.2.2.2.2.1, o33.2.2.2.2.2, (upd pv 1 ((pv 1) - 1))) else (if o19 = (some 3) then (g_X5_copyFrom w er fl me p pr (W8 3) (E8 3) (F8 3) (M8 3) (P8 3) (R8 3)).bind fun o33 => some (o33.1, o33.2.1, o33.2.2.1, o33.2.2.2.1, o33.2.2.2.2.1, o33.2.2.2.2.2, (upd pv 1 ((pv 1) - 1))) else (if o19 = (some 4) then (g_X5_copyFrom w er fl me p pr (W8 4) (E8 4) (F8 4) (M8 4) (P8 4) (R8 4)).bind fun o33 => some (o33.1, o33.2.1, o33.2.2.1, o33.2.2.2.1, o33.2.2.2.2.1, o33.2.2.2.2.2, (upd pv 1 ((pv 1) - 1))) else (if o19 = (some 5) then (g_X5_copyFrom w er fl me p pr (W8 5) (E8 5) (F8 5) (M8 5) (P8 5) (R8 5)).bind fun o33 => some (o33.1, o33.2.1, o33.2.2.1, o33.2.2.2.1, o33.2.2.2.2.1, o33.2.2.2.2.2, (upd pv 1 ((pv 1) - 1))) else (if o19 = (some 6) then (g_X5_copyFrom w er fl me p pr (W8 6) (E8 6) (F8 6) (M8 6) (P8 6) (R8 6)).bind fun o33 => some (o33.1, o33.2.1, o33.2.2.1, o33.2.2.2.1, o33.2.2.2.2.1, o33.2.2.2.2.2, (upd pv 1 ((pv 1) - 1))) else (if o19 = (some 7) then (g_X5_copyFrom w er fl me p pr (W8 7) (E8 7) (F8 7) (M8 7) (P8 7) (R8 7)).bind fun o33 => some (o33.1, o33.2.1, o33.2.2.1, o33.2.2.2.1, o33.2.2.2.2.1, o33.2.2.2.2.2, (upd pv 1 ((pv 1) - 1))) else none))))))))))
set_option maxHeartbeats 4000000 in
set_option maxRecDepth 100000 in
theorem c_X4_restore (Z : GZ) (l : Launch) (a : Nat → Nat) (hq : Nat) (hs : Nat) (AD : Nat → Nat → Nat) (w : Nat → Int32) (er : Nat → Int32) (fl : Nat → Int32) (me : Nat → Int32) (p : Nat → Int32) (pr : Nat → Int32) (pv : Nat → Int32) (W8 : Nat → Nat → Int32) (E8 : Nat → Nat → Int32) (F8 : Nat → Nat → Int32) (M8 : Nat → Nat → Int32) (P8 : Nat → Nat → Int32) (R8 : Nat → Nat → Int32)  (o : ((Nat → Int32) × (Nat → Int32) × (Nat → Int32) × (Nat → Int32) × (Nat → Int32) × (Nat → Int32) × (Nat → Int32))) (hg : g_X4_restore w er fl me p pr pv W8 E8 F8 M8 P8 R8 = some o) : Con Z l yX4_restore cX4_restore 3 none rm_X4_restore [.ref hq, .ref (a 0)] (wP Z a w er fl me p pr ++ (wS Z hq hs AD pv ++ (wP Z (AD 0) (W8 0) (E8 0) (F8 0) (M8 0) (P8 0) (R8 0) ++ (wP Z (AD 1) (W8 1) (E8 1) (F8 1) (M8 1) (P8 1) (R8 1) ++ (wP Z (AD 2) (W8 2) (E8 2) (F8 2) (M8 2) (P8 2) (R8 2) ++ (wP Z (AD 3) (W8 3) (E8 3) (F8 3) (M8 3) (P8 3) (R8 3) ++ (wP Z (AD 4) (W8 4) (E8 4) (F8 4) (M8 4) (P8 4) (R8 4) ++ (wP Z (AD 5) (W8 5) (E8 5) (F8 5) (M8 5) (P8 5) (R8 5) ++ (wP Z (AD 6) (W8 6) (E8 6) (F8 6) (M8 6) (P8 6) (R8 6) ++ (wP Z (AD 7) (W8 7) (E8 7) (F8 7) (M8 7) (P8 7) (R8 7))))))))))) none (wP Z a o.1 o.2.1 o.2.2.1 o.2.2.2.1 o.2.2.2.2.1 o.2.2.2.2.2.1 ++ (wS Z hq hs AD o.2.2.2.2.2.2 ++ (wP Z (AD 0) (W8 0) (E8 0) (F8 0) (M8 0) (P8 0) (R8 0) ++ (wP Z (AD 1) (W8 1) (E8 1) (F8 1) (M8 1) (P8 1) (R8 1) ++ (wP Z (AD 2) (W8 2) (E8 2) (F8 2) (M8 2) (P8 2) (R8 2) ++ (wP Z (AD 3) (W8 3) (E8 3) (F8 3) (M8 3) (P8 3) (R8 3) ++ (wP Z (AD 4) (W8 4) (E8 4) (F8 4) (M8 4) (P8 4) (R8 4) ++ (wP Z (AD 5) (W8 5) (E8 5) (F8 5) (M8 5) (P8 5) (R8 5) ++ (wP Z (AD 6) (W8 6) (E8 6) (F8 6) (M8 6) (P8 6) (R8 6) ++ (wP Z (AD 7) (W8 7) (E8 7) (F8 7) (M8 7) (P8 7) (R8 7))))))))))) := by
  refine Con.of (by decide) (Nat.le_of_ble_eq_true rfl) ?_
  intro X hE0
  have hE : ∀ z, z = o → endsX X Z none none (wP Z a z.1 z.2.1 z.2.2.1 z.2.2.2.1 z.2.2.2.2.1 z.2.2.2.2.2.1 ++ (wS Z hq hs AD z.2.2.2.2.2.2 ++ (wP Z (AD 0) (W8 0) (E8 0) (F8 0) (M8 0) (P8 0) (R8 0) ++ (wP Z (AD 1) (W8 1) (E8 1) (F8 1) (M8 1) (P8 1) (R8 1) ++ (wP Z (AD 2) (W8 2) (E8 2) (F8 2) (M8 2) (P8 2) (R8 2) ++ (wP Z (AD 3) (W8 3) (E8 3) (F8 3) (M8 3) (P8 3) (R8 3) ++ (wP Z (AD 4) (W8 4) (E8 4) (F8 4) (M8 4) (P8 4) (R8 4) ++ (wP Z (AD 5) (W8 5) (E8 5) (F8 5) (M8 5) (P8 5) (R8 5) ++ (wP Z (AD 6) (W8 6) (E8 6) (F8 6) (M8 6) (P8 6) (R8 6) ++ (wP Z (AD 7) (W8 7) (E8 7) (F8 7) (M8 7) (P8 7) (R8 7))))))))))) := by
    rintro _ rfl; exact hE0
  unfold g_X4_restore at hg
  show AtK X Z rm_X4_restore cX4_restore RX4 3 0 0 (wP Z a w er fl me p pr ++ (wS Z hq hs AD pv ++ (wP Z (AD 0) (W8 0) (E8 0) (F8 0) (M8 0) (P8 0) (R8 0) ++ (wP Z (AD 1) (W8 1) (E8 1) (F8 1) (M8 1) (P8 1) (R8 1) ++ (wP Z (AD 2) (W8 2) (E8 2) (F8 2) (M8 2) (P8 2) (R8 2) ++ (wP Z (AD 3) (W8 3) (E8 3) (F8 3) (M8 3) (P8 3) (R8 3) ++ (wP Z (AD 4) (W8 4) (E8 4) (F8 4) (M8 4) (P8 4) (R8 4) ++ (wP Z (AD 5) (W8 5) (E8 5) (F8 5) (M8 5) (P8 5) (R8 5) ++ (wP Z (AD 6) (W8 6) (E8 6) (F8 6) (M8 6) (P8 6) (R8 6) ++ (wP Z (AD 7) (W8 7) (E8 7) (F8 7) (M8 7) (P8 7) (R8 7))))))))))) 0 [(0, .ref hq), (1, .ref (a 0))] []
  refine r_aload_n dX4_restore_0 0 rfl ?_
  refine gf_X4_2 (v := .int (pv 1)) 6 rfl rfl qw_148 dX4_restore_1 ?_
  refine r_if_le (tgt := 25) dX4_restore_4 (by decide) (fun h4 => ?_) (fun h4 => ?_)
  · replace hg := (if_pos h4).symm.trans hg
    refine r_null dX4_restore_25 ?_
    refine r_astore_nN (lv' := [(2, .null), (0, .ref hq), (1, .ref (a 0))]) dX4_restore_26 (by decide) rfl ?_
    refine r_aload_nN dX4_restore_27 0 rfl ?_
    refine r_ifnullN (tgt := 46) dX4_restore_28 (by decide) ?_
    exact r_vret (hE _ (Option.some.inj hg)) dX4_restore_46
  · replace hg := (if_neg h4).symm.trans hg
    refine r_aload_n dX4_restore_7 0 rfl ?_
    refine r_aload_n dX4_restore_8 0 rfl ?_
    refine gf_X4_1 (v := .int (pv 0)) 6 rfl rfl qw_147 dX4_restore_9 ?_
    refine r_aload_n dX4_restore_12 0 rfl ?_
    refine gf_X4_2 (v := .int (pv 1)) 6 rfl rfl qw_148 dX4_restore_13 ?_
    refine r_iadd dX4_restore_16 ?_
    refine r_iconst (v := 1) dX4_restore_17 kic_1 ?_
    refine r_isub dX4_restore_18 ?_
    obtain ⟨o19, e19, hg⟩ := ob hg
    refine r_callV (As := [.int (((pv 0) + (pv 1)) - 1)]) (rest := []) (ws' := wP Z a w er fl me p pr ++ (wS Z hq hs AD pv ++ (wP Z (AD 0) (W8 0) (E8 0) (F8 0) (M8 0) (P8 0) (R8 0) ++ (wP Z (AD 1) (W8 1) (E8 1) (F8 1) (M8 1) (P8 1) (R8 1) ++ (wP Z (AD 2) (W8 2) (E8 2) (F8 2) (M8 2) (P8 2) (R8 2) ++ (wP Z (AD 3) (W8 3) (E8 3) (F8 3) (M8 3) (P8 3) (R8 3) ++ (wP Z (AD 4) (W8 4) (E8 4) (F8 4) (M8 4) (P8 4) (R8 4) ++ (wP Z (AD 5) (W8 5) (E8 5) (F8 5) (M8 5) (P8 5) (R8 5) ++ (wP Z (AD 6) (W8 6) (E8 6) (F8 6) (M8 6) (P8 6) (R8 6) ++ (wP Z (AD 7) (W8 7) (E8 7) (F8 7) (M8 7) (P8 7) (R8 7))))))))))) 0 rfl rfl rfl (fun l => c_X4_stateAt Z l hq hs AD pv (((pv 0) + (pv 1)) - 1) o19 e19) qw_236 mv_X4_stateAt (xPk.idx [6, 7] rfl rfl rfl rfl rfl) ⟨Nat.le_of_ble_eq_true rfl, Nat.le_of_ble_eq_true rfl⟩ ⟨rfl, rfl⟩ ⟨Nat.zero_le _, Nat.zero_le _⟩ rfl (Nat.le_of_ble_eq_true rfl) rfl dX4_restore_19 ?_
    by_cases h19_0 : o19 = none
    · replace hg := (if_pos h19_0).symm.trans hg
      subst h19_0
      refine r_goto (tgt := 26) dX4_restore_22 (by decide) ?_
      refine r_astore_nN (lv' := [(2, .null), (0, .ref hq), (1, .ref (a 0))]) dX4_restore_26 (by decide) rfl ?_
      refine r_aload_nN dX4_restore_27 0 rfl ?_
      refine r_ifnullN (tgt := 46) dX4_restore_28 (by decide) ?_
      exact r_vret (hE _ (Option.some.inj hg)) dX4_restore_46
    replace hg := (if_neg h19_0).symm.trans hg
    by_cases h19_1 : o19 = (some 0)
    · replace hg := (if_pos h19_1).symm.trans hg
      subst h19_1
      refine r_goto (tgt := 26) dX4_restore_22 (by decide) ?_
      refine r_astore_n (lv' := [(2, .ref (AD 0 0)), (0, .ref hq), (1, .ref (a 0))]) dX4_restore_26 (by decide) rfl ?_
      refine r_aload_n dX4_restore_27 0 rfl ?_
      refine r_ifnull dX4_restore_28 ?_
      refine r_aload_n dX4_restore_31 2 rfl ?_
      refine r_aload_n dX4_restore_32 0 rfl ?_
      obtain ⟨o33, e33, hg⟩ := ob hg
      refine r_callV (As := [.ref (AD 0 0)]) (rest := []) (ws' := wP Z a o33.1 o33.2.1 o33.2.2.1 o33.2.2.2.1 o33.2.2.2.2.1 o33.2.2.2.2.2 ++ (wS Z hq hs AD pv ++ (wP Z (AD 0) (W8 0) (E8 0) (F8 0) (M8 0) (P8 0) (R8 0) ++ (wP Z (AD 1) (W8 1) (E8 1) (F8 1) (M8 1) (P8 1) (R8 1) ++ (wP Z (AD 2) (W8 2) (E8 2) (F8 2) (M8 2) (P8 2) (R8 2) ++ (wP Z (AD 3) (W8 3) (E8 3) (F8 3) (M8 3) (P8 3) (R8 3) ++ (wP Z (AD 4) (W8 4) (E8 4) (F8 4) (M8 4) (P8 4) (R8 4) ++ (wP Z (AD 5) (W8 5) (E8 5) (F8 5) (M8 5) (P8 5) (R8 5) ++ (wP Z (AD 6) (W8 6) (E8 6) (F8 6) (M8 6) (P8 6) (R8 6) ++ (wP Z (AD 7) (W8 7) (E8 7) (F8 7) (M8 7) (P8 7) (R8 7))))))))))) 0 rfl rfl rfl (fun l => c_X5_copyFrom Z l a (AD 0) w er fl me p pr (W8 0) (E8 0) (F8 0) (M8 0) (P8 0) (R8 0)  o33 e33) qw_240 mv_X5_copyFrom (xPk.idx [0, 1, 2, 3, 4, 5, 8, 9, 10, 11, 12, 13] rfl rfl rfl rfl rfl) ⟨Nat.le_of_ble_eq_true rfl, Nat.le_of_ble_eq_true rfl⟩ ⟨rfl, rfl⟩ ⟨Nat.zero_le _, Nat.zero_le _⟩ rfl (Nat.le_of_ble_eq_true rfl) rfl dX4_restore_33 ?_
      refine r_aload_n dX4_restore_36 1 rfl ?_
      refine r_dup dX4_restore_37 rfl ?_
      refine gf_X4_2 (v := .int (pv 1)) 6 rfl rfl qw_148 dX4_restore_38 ?_
      refine r_iconst (v := 1) dX4_restore_41 kic_1 ?_
      refine r_isub dX4_restore_42 ?_
      refine pf_X4_2 6 rfl (Nat.le_of_ble_eq_true rfl) qw_148 dX4_restore_43 (ws' := wP Z a o33.1 o33.2.1 o33.2.2.1 o33.2.2.2.1 o33.2.2.2.2.1 o33.2.2.2.2.2 ++ (wS Z hq hs AD (upd pv 1 ((pv 1) - 1)) ++ (wP Z (AD 0) (W8 0) (E8 0) (F8 0) (M8 0) (P8 0) (R8 0) ++ (wP Z (AD 1) (W8 1) (E8 1) (F8 1) (M8 1) (P8 1) (R8 1) ++ (wP Z (AD 2) (W8 2) (E8 2) (F8 2) (M8 2) (P8 2) (R8 2) ++ (wP Z (AD 3) (W8 3) (E8 3) (F8 3) (M8 3) (P8 3) (R8 3) ++ (wP Z (AD 4) (W8 4) (E8 4) (F8 4) (M8 4) (P8 4) (R8 4) ++ (wP Z (AD 5) (W8 5) (E8 5) (F8 5) (M8 5) (P8 5) (R8 5) ++ (wP Z (AD 6) (W8 6) (E8 6) (F8 6) (M8 6) (P8 6) (R8 6) ++ (wP Z (AD 7) (W8 7) (E8 7) (F8 7) (M8 7) (P8 7) (R8 7))))))))))) rfl ?_
      exact r_vret (hE _ (Option.some.inj hg)) dX4_restore_46
    replace hg := (if_neg h19_1).symm.trans hg
    by_cases h19_2 : o19 = (some 1)
    · replace hg := (if_pos h19_2).symm.trans hg
      subst h19_2
      refine r_goto (tgt := 26) dX4_restore_22 (by decide) ?_
      refine r_astore_n (lv' := [(2, .ref (AD 1 0)), (0, .ref hq), (1, .ref (a 0))]) dX4_restore_26 (by decide) rfl ?_
      refine r_aload_n dX4_restore_27 0 rfl ?_
      refine r_ifnull dX4_restore_28 ?_
      refine r_aload_n dX4_restore_31 2 rfl ?_
      refine r_aload_n dX4_restore_32 0 rfl ?_
      obtain ⟨o33, e33, hg⟩ := ob hg
      refine r_callV (As := [.ref (AD 1 0)]) (rest := []) (ws' := wP Z a o33.1 o33.2.1 o33.2.2.1 o33.2.2.2.1 o33.2.2.2.2.1 o33.2.2.2.2.2 ++ (wS Z hq hs AD pv ++ (wP Z (AD 0) (W8 0) (E8 0) (F8 0) (M8 0) (P8 0) (R8 0) ++ (wP Z (AD 1) (W8 1) (E8 1) (F8 1) (M8 1) (P8 1) (R8 1) ++ (wP Z (AD 2) (W8 2) (E8 2) (F8 2) (M8 2) (P8 2) (R8 2) ++ (wP Z (AD 3) (W8 3) (E8 3) (F8 3) (M8 3) (P8 3) (R8 3) ++ (wP Z (AD 4) (W8 4) (E8 4) (F8 4) (M8 4) (P8 4) (R8 4) ++ (wP Z (AD 5) (W8 5) (E8 5) (F8 5) (M8 5) (P8 5) (R8 5) ++ (wP Z (AD 6) (W8 6) (E8 6) (F8 6) (M8 6) (P8 6) (R8 6) ++ (wP Z (AD 7) (W8 7) (E8 7) (F8 7) (M8 7) (P8 7) (R8 7))))))))))) 0 rfl rfl rfl (fun l => c_X5_copyFrom Z l a (AD 1) w er fl me p pr (W8 1) (E8 1) (F8 1) (M8 1) (P8 1) (R8 1)  o33 e33) qw_240 mv_X5_copyFrom (xPk.idx [0, 1, 2, 3, 4, 5, 14, 15, 16, 17, 18, 19] rfl rfl rfl rfl rfl) ⟨Nat.le_of_ble_eq_true rfl, Nat.le_of_ble_eq_true rfl⟩ ⟨rfl, rfl⟩ ⟨Nat.zero_le _, Nat.zero_le _⟩ rfl (Nat.le_of_ble_eq_true rfl) rfl dX4_restore_33 ?_
      refine r_aload_n dX4_restore_36 1 rfl ?_
      refine r_dup dX4_restore_37 rfl ?_
      refine gf_X4_2 (v := .int (pv 1)) 6 rfl rfl qw_148 dX4_restore_38 ?_
      refine r_iconst (v := 1) dX4_restore_41 kic_1 ?_
      refine r_isub dX4_restore_42 ?_
      refine pf_X4_2 6 rfl (Nat.le_of_ble_eq_true rfl) qw_148 dX4_restore_43 (ws' := wP Z a o33.1 o33.2.1 o33.2.2.1 o33.2.2.2.1 o33.2.2.2.2.1 o33.2.2.2.2.2 ++ (wS Z hq hs AD (upd pv 1 ((pv 1) - 1)) ++ (wP Z (AD 0) (W8 0) (E8 0) (F8 0) (M8 0) (P8 0) (R8 0) ++ (wP Z (AD 1) (W8 1) (E8 1) (F8 1) (M8 1) (P8 1) (R8 1) ++ (wP Z (AD 2) (W8 2) (E8 2) (F8 2) (M8 2) (P8 2) (R8 2) ++ (wP Z (AD 3) (W8 3) (E8 3) (F8 3) (M8 3) (P8 3) (R8 3) ++ (wP Z (AD 4) (W8 4) (E8 4) (F8 4) (M8 4) (P8 4) (R8 4) ++ (wP Z (AD 5) (W8 5) (E8 5) (F8 5) (M8 5) (P8 5) (R8 5) ++ (wP Z (AD 6) (W8 6) (E8 6) (F8 6) (M8 6) (P8 6) (R8 6) ++ (wP Z (AD 7) (W8 7) (E8 7) (F8 7) (M8 7) (P8 7) (R8 7))))))))))) rfl ?_
      exact r_vret (hE _ (Option.some.inj hg)) dX4_restore_46
    replace hg := (if_neg h19_2).symm.trans hg
    by_cases h19_3 : o19 = (some 2)
    · replace hg := (if_pos h19_3).symm.trans hg
      subst h19_3
      refine r_goto (tgt := 26) dX4_restore_22 (by decide) ?_
      refine r_astore_n (lv' := [(2, .ref (AD 2 0)), (0, .ref hq), (1, .ref (a 0))]) dX4_restore_26 (by decide) rfl ?_
      refine r_aload_n dX4_restore_27 0 rfl ?_
      refine r_ifnull dX4_restore_28 ?_
      refine r_aload_n dX4_restore_31 2 rfl ?_
      refine r_aload_n dX4_restore_32 0 rfl ?_
      obtain ⟨o33, e33, hg⟩ := ob hg
      refine r_callV (As := [.ref (AD 2 0)]) (rest := []) (ws' := wP Z a o33.1 o33.2.1 o33.2.2.1 o33.2.2.2.1 o33.2.2.2.2.1 o33.2.2.2.2.2 ++ (wS Z hq hs AD pv ++ (wP Z (AD 0) (W8 0) (E8 0) (F8 0) (M8 0) (P8 0) (R8 0) ++ (wP Z (AD 1) (W8 1) (E8 1) (F8 1) (M8 1) (P8 1) (R8 1) ++ (wP Z (AD 2) (W8 2) (E8 2) (F8 2) (M8 2) (P8 2) (R8 2) ++ (wP Z (AD 3) (W8 3) (E8 3) (F8 3) (M8 3) (P8 3) (R8 3) ++ (wP Z (AD 4) (W8 4) (E8 4) (F8 4) (M8 4) (P8 4) (R8 4) ++ (wP Z (AD 5) (W8 5) (E8 5) (F8 5) (M8 5) (P8 5) (R8 5) ++ (wP Z (AD 6) (W8 6) (E8 6) (F8 6) (M8 6) (P8 6) (R8 6) ++ (wP Z (AD 7) (W8 7) (E8 7) (F8 7) (M8 7) (P8 7) (R8 7))))))))))) 0 rfl rfl rfl (fun l => c_X5_copyFrom Z l a (AD 2) w er fl me p pr (W8 2) (E8 2) (F8 2) (M8 2) (P8 2) (R8 2)  o33 e33) qw_240 mv_X5_copyFrom (xPk.seg2 (([] : va_W)) (wP Z a w er fl me p pr) (wP Z a o33.1 o33.2.1 o33.2.2.1 o33.2.2.2.1 o33.2.2.2.2.1 o33.2.2.2.2.2) (wS Z hq hs AD pv ++ (wP Z (AD 0) (W8 0) (E8 0) (F8 0) (M8 0) (P8 0) (R8 0) ++ (wP Z (AD 1) (W8 1) (E8 1) (F8 1) (M8 1) (P8 1) (R8 1)))) (wP Z (AD 2) (W8 2) (E8 2) (F8 2) (M8 2) (P8 2) (R8 2)) (wP Z (AD 2) (W8 2) (E8 2) (F8 2) (M8 2) (P8 2) (R8 2)) (wP Z (AD 3) (W8 3) (E8 3) (F8 3) (M8 3) (P8 3) (R8 3) ++ (wP Z (AD 4) (W8 4) (E8 4) (F8 4) (M8 4) (P8 4) (R8 4) ++ (wP Z (AD 5) (W8 5) (E8 5) (F8 5) (M8 5) (P8 5) (R8 5) ++ (wP Z (AD 6) (W8 6) (E8 6) (F8 6) (M8 6) (P8 6) (R8 6) ++ (wP Z (AD 7) (W8 7) (E8 7) (F8 7) (M8 7) (P8 7) (R8 7)))))) (by simp only [List.append_assoc, List.append_nil, List.nil_append]) (by simp only [List.append_assoc, List.append_nil, List.nil_append]) rfl rfl) ⟨Nat.le_of_ble_eq_true rfl, Nat.le_of_ble_eq_true rfl⟩ ⟨rfl, rfl⟩ ⟨Nat.zero_le _, Nat.zero_le _⟩ rfl (Nat.le_of_ble_eq_true rfl) rfl dX4_restore_33 ?_
      refine r_aload_n dX4_restore_36 1 rfl ?_
      refine r_dup dX4_restore_37 rfl ?_
      refine gf_X4_2 (v := .int (pv 1)) 6 rfl rfl qw_148 dX4_restore_38 ?_
      refine r_iconst (v := 1) dX4_restore_41 kic_1 ?_
      refine r_isub dX4_restore_42 ?_
      refine pf_X4_2 6 rfl (Nat.le_of_ble_eq_true rfl) qw_148 dX4_restore_43 (ws' := wP Z a o33.1 o33.2.1 o33.2.2.1 o33.2.2.2.1 o33.2.2.2.2.1 o33.2.2.2.2.2 ++ (wS Z hq hs AD (upd pv 1 ((pv 1) - 1)) ++ (wP Z (AD 0) (W8 0) (E8 0) (F8 0) (M8 0) (P8 0) (R8 0) ++ (wP Z (AD 1) (W8 1) (E8 1) (F8 1) (M8 1) (P8 1) (R8 1) ++ (wP Z (AD 2) (W8 2) (E8 2) (F8 2) (M8 2) (P8 2) (R8 2) ++ (wP Z (AD 3) (W8 3) (E8 3) (F8 3) (M8 3) (P8 3) (R8 3) ++ (wP Z (AD 4) (W8 4) (E8 4) (F8 4) (M8 4) (P8 4) (R8 4) ++ (wP Z (AD 5) (W8 5) (E8 5) (F8 5) (M8 5) (P8 5) (R8 5) ++ (wP Z (AD 6) (W8 6) (E8 6) (F8 6) (M8 6) (P8 6) (R8 6) ++ (wP Z (AD 7) (W8 7) (E8 7) (F8 7) (M8 7) (P8 7) (R8 7))))))))))) rfl ?_
      exact r_vret (hE _ (Option.some.inj hg)) dX4_restore_46
    replace hg := (if_neg h19_3).symm.trans hg
    by_cases h19_4 : o19 = (some 3)
    · replace hg := (if_pos h19_4).symm.trans hg
      subst h19_4
      refine r_goto (tgt := 26) dX4_restore_22 (by decide) ?_
      refine r_astore_n (lv' := [(2, .ref (AD 3 0)), (0, .ref hq), (1, .ref (a 0))]) dX4_restore_26 (by decide) rfl ?_
      refine r_aload_n dX4_restore_27 0 rfl ?_
      refine r_ifnull dX4_restore_28 ?_
      refine r_aload_n dX4_restore_31 2 rfl ?_
      refine r_aload_n dX4_restore_32 0 rfl ?_
      obtain ⟨o33, e33, hg⟩ := ob hg
      refine r_callV (As := [.ref (AD 3 0)]) (rest := []) (ws' := wP Z a o33.1 o33.2.1 o33.2.2.1 o33.2.2.2.1 o33.2.2.2.2.1 o33.2.2.2.2.2 ++ (wS Z hq hs AD pv ++ (wP Z (AD 0) (W8 0) (E8 0) (F8 0) (M8 0) (P8 0) (R8 0) ++ (wP Z (AD 1) (W8 1) (E8 1) (F8 1) (M8 1) (P8 1) (R8 1) ++ (wP Z (AD 2) (W8 2) (E8 2) (F8 2) (M8 2) (P8 2) (R8 2) ++ (wP Z (AD 3) (W8 3) (E8 3) (F8 3) (M8 3) (P8 3) (R8 3) ++ (wP Z (AD 4) (W8 4) (E8 4) (F8 4) (M8 4) (P8 4) (R8 4) ++ (wP Z (AD 5) (W8 5) (E8 5) (F8 5) (M8 5) (P8 5) (R8 5) ++ (wP Z (AD 6) (W8 6) (E8 6) (F8 6) (M8 6) (P8 6) (R8 6) ++ (wP Z (AD 7) (W8 7) (E8 7) (F8 7) (M8 7) (P8 7) (R8 7))))))))))) 0 rfl rfl rfl (fun l => c_X5_copyFrom Z l a (AD 3) w er fl me p pr (W8 3) (E8 3) (F8 3) (M8 3) (P8 3) (R8 3)  o33 e33) qw_240 mv_X5_copyFrom (xPk.seg2 (([] : va_W)) (wP Z a w er fl me p pr) (wP Z a o33.1 o33.2.1 o33.2.2.1 o33.2.2.2.1 o33.2.2.2.2.1 o33.2.2.2.2.2) (wS Z hq hs AD pv ++ (wP Z (AD 0) (W8 0) (E8 0) (F8 0) (M8 0) (P8 0) (R8 0) ++ (wP Z (AD 1) (W8 1) (E8 1) (F8 1) (M8 1) (P8 1) (R8 1) ++ (wP Z (AD 2) (W8 2) (E8 2) (F8 2) (M8 2) (P8 2) (R8 2))))) (wP Z (AD 3) (W8 3) (E8 3) (F8 3) (M8 3) (P8 3) (R8 3)) (wP Z (AD 3) (W8 3) (E8 3) (F8 3) (M8 3) (P8 3) (R8 3)) (wP Z (AD 4) (W8 4) (E8 4) (F8 4) (M8 4) (P8 4) (R8 4) ++ (wP Z (AD 5) (W8 5) (E8 5) (F8 5) (M8 5) (P8 5) (R8 5) ++ (wP Z (AD 6) (W8 6) (E8 6) (F8 6) (M8 6) (P8 6) (R8 6) ++ (wP Z (AD 7) (W8 7) (E8 7) (F8 7) (M8 7) (P8 7) (R8 7))))) (by simp only [List.append_assoc, List.append_nil, List.nil_append]) (by simp only [List.append_assoc, List.append_nil, List.nil_append]) rfl rfl) ⟨Nat.le_of_ble_eq_true rfl, Nat.le_of_ble_eq_true rfl⟩ ⟨rfl, rfl⟩ ⟨Nat.zero_le _, Nat.zero_le _⟩ rfl (Nat.le_of_ble_eq_true rfl) rfl dX4_restore_33 ?_
      refine r_aload_n dX4_restore_36 1 rfl ?_
      refine r_dup dX4_restore_37 rfl ?_
      refine gf_X4_2 (v := .int (pv 1)) 6 rfl rfl qw_148 dX4_restore_38 ?_
      refine r_iconst (v := 1) dX4_restore_41 kic_1 ?_
      refine r_isub dX4_restore_42 ?_
      refine pf_X4_2 6 rfl (Nat.le_of_ble_eq_true rfl) qw_148 dX4_restore_43 (ws' := wP Z a o33.1 o33.2.1 o33.2.2.1 o33.2.2.2.1 o33.2.2.2.2.1 o33.2.2.2.2.2 ++ (wS Z hq hs AD (upd pv 1 ((pv 1) - 1)) ++ (wP Z (AD 0) (W8 0) (E8 0) (F8 0) (M8 0) (P8 0) (R8 0) ++ (wP Z (AD 1) (W8 1) (E8 1) (F8 1) (M8 1) (P8 1) (R8 1) ++ (wP Z (AD 2) (W8 2) (E8 2) (F8 2) (M8 2) (P8 2) (R8 2) ++ (wP Z (AD 3) (W8 3) (E8 3) (F8 3) (M8 3) (P8 3) (R8 3) ++ (wP Z (AD 4) (W8 4) (E8 4) (F8 4) (M8 4) (P8 4) (R8 4) ++ (wP Z (AD 5) (W8 5) (E8 5) (F8 5) (M8 5) (P8 5) (R8 5) ++ (wP Z (AD 6) (W8 6) (E8 6) (F8 6) (M8 6) (P8 6) (R8 6) ++ (wP Z (AD 7) (W8 7) (E8 7) (F8 7) (M8 7) (P8 7) (R8 7))))))))))) rfl ?_
      exact r_vret (hE _ (Option.some.inj hg)) dX4_restore_46
    replace hg := (if_neg h19_4).symm.trans hg
    by_cases h19_5 : o19 = (some 4)
    · replace hg := (if_pos h19_5).symm.trans hg
      subst h19_5
      refine r_goto (tgt := 26) dX4_restore_22 (by decide) ?_
      refine r_astore_n (lv' := [(2, .ref (AD 4 0)), (0, .ref hq), (1, .ref (a 0))]) dX4_restore_26 (by decide) rfl ?_
      refine r_aload_n dX4_restore_27 0 rfl ?_
      refine r_ifnull dX4_restore_28 ?_
      refine r_aload_n dX4_restore_31 2 rfl ?_
      refine r_aload_n dX4_restore_32 0 rfl ?_
      obtain ⟨o33, e33, hg⟩ := ob hg
      refine r_callV (As := [.ref (AD 4 0)]) (rest := []) (ws' := wP Z a o33.1 o33.2.1 o33.2.2.1 o33.2.2.2.1 o33.2.2.2.2.1 o33.2.2.2.2.2 ++ (wS Z hq hs AD pv ++ (wP Z (AD 0) (W8 0) (E8 0) (F8 0) (M8 0) (P8 0) (R8 0) ++ (wP Z (AD 1) (W8 1) (E8 1) (F8 1) (M8 1) (P8 1) (R8 1) ++ (wP Z (AD 2) (W8 2) (E8 2) (F8 2) (M8 2) (P8 2) (R8 2) ++ (wP Z (AD 3) (W8 3) (E8 3) (F8 3) (M8 3) (P8 3) (R8 3) ++ (wP Z (AD 4) (W8 4) (E8 4) (F8 4) (M8 4) (P8 4) (R8 4) ++ (wP Z (AD 5) (W8 5) (E8 5) (F8 5) (M8 5) (P8 5) (R8 5) ++ (wP Z (AD 6) (W8 6) (E8 6) (F8 6) (M8 6) (P8 6) (R8 6) ++ (wP Z (AD 7) (W8 7) (E8 7) (F8 7) (M8 7) (P8 7) (R8 7))))))))))) 0 rfl rfl rfl (fun l => c_X5_copyFrom Z l a (AD 4) w er fl me p pr (W8 4) (E8 4) (F8 4) (M8 4) (P8 4) (R8 4)  o33 e33) qw_240 mv_X5_copyFrom (xPk.seg2 (([] : va_W)) (wP Z a w er fl me p pr) (wP Z a o33.1 o33.2.1 o33.2.2.1 o33.2.2.2.1 o33.2.2.2.2.1 o33.2.2.2.2.2) (wS Z hq hs AD pv ++ (wP Z (AD 0) (W8 0) (E8 0) (F8 0) (M8 0) (P8 0) (R8 0) ++ (wP Z (AD 1) (W8 1) (E8 1) (F8 1) (M8 1) (P8 1) (R8 1) ++ (wP Z (AD 2) (W8 2) (E8 2) (F8 2) (M8 2) (P8 2) (R8 2) ++ (wP Z (AD 3) (W8 3) (E8 3) (F8 3) (M8 3) (P8 3) (R8 3)))))) (wP Z (AD 4) (W8 4) (E8 4) (F8 4) (M8 4) (P8 4) (R8 4)) (wP Z (AD 4) (W8 4) (E8 4) (F8 4) (M8 4) (P8 4) (R8 4)) (wP Z (AD 5) (W8 5) (E8 5) (F8 5) (M8 5) (P8 5) (R8 5) ++ (wP Z (AD 6) (W8 6) (E8 6) (F8 6) (M8 6) (P8 6) (R8 6) ++ (wP Z (AD 7) (W8 7) (E8 7) (F8 7) (M8 7) (P8 7) (R8 7)))) (by simp only [List.append_assoc, List.append_nil, List.nil_append]) (by simp only [List.append_assoc, List.append_nil, List.nil_append]) rfl rfl) ⟨Nat.le_of_ble_eq_true rfl, Nat.le_of_ble_eq_true rfl⟩ ⟨rfl, rfl⟩ ⟨Nat.zero_le _, Nat.zero_le _⟩ rfl (Nat.le_of_ble_eq_true rfl) rfl dX4_restore_33 ?_
      refine r_aload_n dX4_restore_36 1 rfl ?_
      refine r_dup dX4_restore_37 rfl ?_
      refine gf_X4_2 (v := .int (pv 1)) 6 rfl rfl qw_148 dX4_restore_38 ?_
      refine r_iconst (v := 1) dX4_restore_41 kic_1 ?_
      refine r_isub dX4_restore_42 ?_
      refine pf_X4_2 6 rfl (Nat.le_of_ble_eq_true rfl) qw_148 dX4_restore_43 (ws' := wP Z a o33.1 o33.2.1 o33.2.2.1 o33.2.2.2.1 o33.2.2.2.2.1 o33.2.2.2.2.2 ++ (wS Z hq hs AD (upd pv 1 ((pv 1) - 1)) ++ (wP Z (AD 0) (W8 0) (E8 0) (F8 0) (M8 0) (P8 0) (R8 0) ++ (wP Z (AD 1) (W8 1) (E8 1) (F8 1) (M8 1) (P8 1) (R8 1) ++ (wP Z (AD 2) (W8 2) (E8 2) (F8 2) (M8 2) (P8 2) (R8 2) ++ (wP Z (AD 3) (W8 3) (E8 3) (F8 3) (M8 3) (P8 3) (R8 3) ++ (wP Z (AD 4) (W8 4) (E8 4) (F8 4) (M8 4) (P8 4) (R8 4) ++ (wP Z (AD 5) (W8 5) (E8 5) (F8 5) (M8 5) (P8 5) (R8 5) ++ (wP Z (AD 6) (W8 6) (E8 6) (F8 6) (M8 6) (P8 6) (R8 6) ++ (wP Z (AD 7) (W8 7) (E8 7) (F8 7) (M8 7) (P8 7) (R8 7))))))))))) rfl ?_
      exact r_vret (hE _ (Option.some.inj hg)) dX4_restore_46
    replace hg := (if_neg h19_5).symm.trans hg
    by_cases h19_6 : o19 = (some 5)
    · replace hg := (if_pos h19_6).symm.trans hg
      subst h19_6
      refine r_goto (tgt := 26) dX4_restore_22 (by decide) ?_
      refine r_astore_n (lv' := [(2, .ref (AD 5 0)), (0, .ref hq), (1, .ref (a 0))]) dX4_restore_26 (by decide) rfl ?_
      refine r_aload_n dX4_restore_27 0 rfl ?_
      refine r_ifnull dX4_restore_28 ?_
      refine r_aload_n dX4_restore_31 2 rfl ?_
      refine r_aload_n dX4_restore_32 0 rfl ?_
      obtain ⟨o33, e33, hg⟩ := ob hg
      refine r_callV (As := [.ref (AD 5 0)]) (rest := []) (ws' := wP Z a o33.1 o33.2.1 o33.2.2.1 o33.2.2.2.1 o33.2.2.2.2.1 o33.2.2.2.2.2 ++ (wS Z hq hs AD pv ++ (wP Z (AD 0) (W8 0) (E8 0) (F8 0) (M8 0) (P8 0) (R8 0) ++ (wP Z (AD 1) (W8 1) (E8 1) (F8 1) (M8 1) (P8 1) (R8 1) ++ (wP Z (AD 2) (W8 2) (E8 2) (F8 2) (M8 2) (P8 2) (R8 2) ++ (wP Z (AD 3) (W8 3) (E8 3) (F8 3) (M8 3) (P8 3) (R8 3) ++ (wP Z (AD 4) (W8 4) (E8 4) (F8 4) (M8 4) (P8 4) (R8 4) ++ (wP Z (AD 5) (W8 5) (E8 5) (F8 5) (M8 5) (P8 5) (R8 5) ++ (wP Z (AD 6) (W8 6) (E8 6) (F8 6) (M8 6) (P8 6) (R8 6) ++ (wP Z (AD 7) (W8 7) (E8 7) (F8 7) (M8 7) (P8 7) (R8 7))))))))))) 0 rfl rfl rfl (fun l => c_X5_copyFrom Z l a (AD 5) w er fl me p pr (W8 5) (E8 5) (F8 5) (M8 5) (P8 5) (R8 5)  o33 e33) qw_240 mv_X5_copyFrom (xPk.seg2 (([] : va_W)) (wP Z a w er fl me p pr) (wP Z a o33.1 o33.2.1 o33.2.2.1 o33.2.2.2.1 o33.2.2.2.2.1 o33.2.2.2.2.2) (wS Z hq hs AD pv ++ (wP Z (AD 0) (W8 0) (E8 0) (F8 0) (M8 0) (P8 0) (R8 0) ++ (wP Z (AD 1) (W8 1) (E8 1) (F8 1) (M8 1) (P8 1) (R8 1) ++ (wP Z (AD 2) (W8 2) (E8 2) (F8 2) (M8 2) (P8 2) (R8 2) ++ (wP Z (AD 3) (W8 3) (E8 3) (F8 3) (M8 3) (P8 3) (R8 3) ++ (wP Z (AD 4) (W8 4) (E8 4) (F8 4) (M8 4) (P8 4) (R8 4))))))) (wP Z (AD 5) (W8 5) (E8 5) (F8 5) (M8 5) (P8 5) (R8 5)) (wP Z (AD 5) (W8 5) (E8 5) (F8 5) (M8 5) (P8 5) (R8 5)) (wP Z (AD 6) (W8 6) (E8 6) (F8 6) (M8 6) (P8 6) (R8 6) ++ (wP Z (AD 7) (W8 7) (E8 7) (F8 7) (M8 7) (P8 7) (R8 7))) (by simp only [List.append_assoc, List.append_nil, List.nil_append]) (by simp only [List.append_assoc, List.append_nil, List.nil_append]) rfl rfl) ⟨Nat.le_of_ble_eq_true rfl, Nat.le_of_ble_eq_true rfl⟩ ⟨rfl, rfl⟩ ⟨Nat.zero_le _, Nat.zero_le _⟩ rfl (Nat.le_of_ble_eq_true rfl) rfl dX4_restore_33 ?_
      refine r_aload_n dX4_restore_36 1 rfl ?_
      refine r_dup dX4_restore_37 rfl ?_
      refine gf_X4_2 (v := .int (pv 1)) 6 rfl rfl qw_148 dX4_restore_38 ?_
      refine r_iconst (v := 1) dX4_restore_41 kic_1 ?_
      refine r_isub dX4_restore_42 ?_
      refine pf_X4_2 6 rfl (Nat.le_of_ble_eq_true rfl) qw_148 dX4_restore_43 (ws' := wP Z a o33.1 o33.2.1 o33.2.2.1 o33.2.2.2.1 o33.2.2.2.2.1 o33.2.2.2.2.2 ++ (wS Z hq hs AD (upd pv 1 ((pv 1) - 1)) ++ (wP Z (AD 0) (W8 0) (E8 0) (F8 0) (M8 0) (P8 0) (R8 0) ++ (wP Z (AD 1) (W8 1) (E8 1) (F8 1) (M8 1) (P8 1) (R8 1) ++ (wP Z (AD 2) (W8 2) (E8 2) (F8 2) (M8 2) (P8 2) (R8 2) ++ (wP Z (AD 3) (W8 3) (E8 3) (F8 3) (M8 3) (P8 3) (R8 3) ++ (wP Z (AD 4) (W8 4) (E8 4) (F8 4) (M8 4) (P8 4) (R8 4) ++ (wP Z (AD 5) (W8 5) (E8 5) (F8 5) (M8 5) (P8 5) (R8 5) ++ (wP Z (AD 6) (W8 6) (E8 6) (F8 6) (M8 6) (P8 6) (R8 6) ++ (wP Z (AD 7) (W8 7) (E8 7) (F8 7) (M8 7) (P8 7) (R8 7))))))))))) rfl ?_
      exact r_vret (hE _ (Option.some.inj hg)) dX4_restore_46
    replace hg := (if_neg h19_6).symm.trans hg
    by_cases h19_7 : o19 = (some 6)
    · replace hg := (if_pos h19_7).symm.trans hg
      subst h19_7
      refine r_goto (tgt := 26) dX4_restore_22 (by decide) ?_
      refine r_astore_n (lv' := [(2, .ref (AD 6 0)), (0, .ref hq), (1, .ref (a 0))]) dX4_restore_26 (by decide) rfl ?_
      refine r_aload_n dX4_restore_27 0 rfl ?_
      refine r_ifnull dX4_restore_28 ?_
      refine r_aload_n dX4_restore_31 2 rfl ?_
      refine r_aload_n dX4_restore_32 0 rfl ?_
      obtain ⟨o33, e33, hg⟩ := ob hg
      refine r_callV (As := [.ref (AD 6 0)]) (rest := []) (ws' := wP Z a o33.1 o33.2.1 o33.2.2.1 o33.2.2.2.1 o33.2.2.2.2.1 o33.2.2.2.2.2 ++ (wS Z hq hs AD pv ++ (wP Z (AD 0) (W8 0) (E8 0) (F8 0) (M8 0) (P8 0) (R8 0) ++ (wP Z (AD 1) (W8 1) (E8 1) (F8 1) (M8 1) (P8 1) (R8 1) ++ (wP Z (AD 2) (W8 2) (E8 2) (F8 2) (M8 2) (P8 2) (R8 2) ++ (wP Z (AD 3) (W8 3) (E8 3) (F8 3) (M8 3) (P8 3) (R8 3) ++ (wP Z (AD 4) (W8 4) (E8 4) (F8 4) (M8 4) (P8 4) (R8 4) ++ (wP Z (AD 5) (W8 5) (E8 5) (F8 5) (M8 5) (P8 5) (R8 5) ++ (wP Z (AD 6) (W8 6) (E8 6) (F8 6) (M8 6) (P8 6) (R8 6) ++ (wP Z (AD 7) (W8 7) (E8 7) (F8 7) (M8 7) (P8 7) (R8 7))))))))))) 0 rfl rfl rfl (fun l => c_X5_copyFrom Z l a (AD 6) w er fl me p pr (W8 6) (E8 6) (F8 6) (M8 6) (P8 6) (R8 6)  o33 e33) qw_240 mv_X5_copyFrom (xPk.seg2 (([] : va_W)) (wP Z a w er fl me p pr) (wP Z a o33.1 o33.2.1 o33.2.2.1 o33.2.2.2.1 o33.2.2.2.2.1 o33.2.2.2.2.2) (wS Z hq hs AD pv ++ (wP Z (AD 0) (W8 0) (E8 0) (F8 0) (M8 0) (P8 0) (R8 0) ++ (wP Z (AD 1) (W8 1) (E8 1) (F8 1) (M8 1) (P8 1) (R8 1) ++ (wP Z (AD 2) (W8 2) (E8 2) (F8 2) (M8 2) (P8 2) (R8 2) ++ (wP Z (AD 3) (W8 3) (E8 3) (F8 3) (M8 3) (P8 3) (R8 3) ++ (wP Z (AD 4) (W8 4) (E8 4) (F8 4) (M8 4) (P8 4) (R8 4) ++ (wP Z (AD 5) (W8 5) (E8 5) (F8 5) (M8 5) (P8 5) (R8 5)))))))) (wP Z (AD 6) (W8 6) (E8 6) (F8 6) (M8 6) (P8 6) (R8 6)) (wP Z (AD 6) (W8 6) (E8 6) (F8 6) (M8 6) (P8 6) (R8 6)) (wP Z (AD 7) (W8 7) (E8 7) (F8 7) (M8 7) (P8 7) (R8 7)) (by simp only [List.append_assoc, List.append_nil, List.nil_append]) (by simp only [List.append_assoc, List.append_nil, List.nil_append]) rfl rfl) ⟨Nat.le_of_ble_eq_true rfl, Nat.le_of_ble_eq_true rfl⟩ ⟨rfl, rfl⟩ ⟨Nat.zero_le _, Nat.zero_le _⟩ rfl (Nat.le_of_ble_eq_true rfl) rfl dX4_restore_33 ?_
      refine r_aload_n dX4_restore_36 1 rfl ?_
      refine r_dup dX4_restore_37 rfl ?_
      refine gf_X4_2 (v := .int (pv 1)) 6 rfl rfl qw_148 dX4_restore_38 ?_
      refine r_iconst (v := 1) dX4_restore_41 kic_1 ?_
      refine r_isub dX4_restore_42 ?_
      refine pf_X4_2 6 rfl (Nat.le_of_ble_eq_true rfl) qw_148 dX4_restore_43 (ws' := wP Z a o33.1 o33.2.1 o33.2.2.1 o33.2.2.2.1 o33.2.2.2.2.1 o33.2.2.2.2.2 ++ (wS Z hq hs AD (upd pv 1 ((pv 1) - 1)) ++ (wP Z (AD 0) (W8 0) (E8 0) (F8 0) (M8 0) (P8 0) (R8 0) ++ (wP Z (AD 1) (W8 1) (E8 1) (F8 1) (M8 1) (P8 1) (R8 1) ++ (wP Z (AD 2) (W8 2) (E8 2) (F8 2) (M8 2) (P8 2) (R8 2) ++ (wP Z (AD 3) (W8 3) (E8 3) (F8 3) (M8 3) (P8 3) (R8 3) ++ (wP Z (AD 4) (W8 4) (E8 4) (F8 4) (M8 4) (P8 4) (R8 4) ++ (wP Z (AD 5) (W8 5) (E8 5) (F8 5) (M8 5) (P8 5) (R8 5) ++ (wP Z (AD 6) (W8 6) (E8 6) (F8 6) (M8 6) (P8 6) (R8 6) ++ (wP Z (AD 7) (W8 7) (E8 7) (F8 7) (M8 7) (P8 7) (R8 7))))))))))) rfl ?_
      exact r_vret (hE _ (Option.some.inj hg)) dX4_restore_46
    replace hg := (if_neg h19_7).symm.trans hg
    by_cases h19_8 : o19 = (some 7)
    · replace hg := (if_pos h19_8).symm.trans hg
      subst h19_8
      refine r_goto (tgt := 26) dX4_restore_22 (by decide) ?_
      refine r_astore_n (lv' := [(2, .ref (AD 7 0)), (0, .ref hq), (1, .ref (a 0))]) dX4_restore_26 (by decide) rfl ?_
      refine r_aload_n dX4_restore_27 0 rfl ?_
      refine r_ifnull dX4_restore_28 ?_
      refine r_aload_n dX4_restore_31 2 rfl ?_
      refine r_aload_n dX4_restore_32 0 rfl ?_
      obtain ⟨o33, e33, hg⟩ := ob hg
      refine r_callV (As := [.ref (AD 7 0)]) (rest := []) (ws' := wP Z a o33.1 o33.2.1 o33.2.2.1 o33.2.2.2.1 o33.2.2.2.2.1 o33.2.2.2.2.2 ++ (wS Z hq hs AD pv ++ (wP Z (AD 0) (W8 0) (E8 0) (F8 0) (M8 0) (P8 0) (R8 0) ++ (wP Z (AD 1) (W8 1) (E8 1) (F8 1) (M8 1) (P8 1) (R8 1) ++ (wP Z (AD 2) (W8 2) (E8 2) (F8 2) (M8 2) (P8 2) (R8 2) ++ (wP Z (AD 3) (W8 3) (E8 3) (F8 3) (M8 3) (P8 3) (R8 3) ++ (wP Z (AD 4) (W8 4) (E8 4) (F8 4) (M8 4) (P8 4) (R8 4) ++ (wP Z (AD 5) (W8 5) (E8 5) (F8 5) (M8 5) (P8 5) (R8 5) ++ (wP Z (AD 6) (W8 6) (E8 6) (F8 6) (M8 6) (P8 6) (R8 6) ++ (wP Z (AD 7) (W8 7) (E8 7) (F8 7) (M8 7) (P8 7) (R8 7))))))))))) 0 rfl rfl rfl (fun l => c_X5_copyFrom Z l a (AD 7) w er fl me p pr (W8 7) (E8 7) (F8 7) (M8 7) (P8 7) (R8 7)  o33 e33) qw_240 mv_X5_copyFrom (xPk.seg2 (([] : va_W)) (wP Z a w er fl me p pr) (wP Z a o33.1 o33.2.1 o33.2.2.1 o33.2.2.2.1 o33.2.2.2.2.1 o33.2.2.2.2.2) (wS Z hq hs AD pv ++ (wP Z (AD 0) (W8 0) (E8 0) (F8 0) (M8 0) (P8 0) (R8 0) ++ (wP Z (AD 1) (W8 1) (E8 1) (F8 1) (M8 1) (P8 1) (R8 1) ++ (wP Z (AD 2) (W8 2) (E8 2) (F8 2) (M8 2) (P8 2) (R8 2) ++ (wP Z (AD 3) (W8 3) (E8 3) (F8 3) (M8 3) (P8 3) (R8 3) ++ (wP Z (AD 4) (W8 4) (E8 4) (F8 4) (M8 4) (P8 4) (R8 4) ++ (wP Z (AD 5) (W8 5) (E8 5) (F8 5) (M8 5) (P8 5) (R8 5) ++ (wP Z (AD 6) (W8 6) (E8 6) (F8 6) (M8 6) (P8 6) (R8 6))))))))) (wP Z (AD 7) (W8 7) (E8 7) (F8 7) (M8 7) (P8 7) (R8 7)) (wP Z (AD 7) (W8 7) (E8 7) (F8 7) (M8 7) (P8 7) (R8 7)) (([] : va_W)) (by simp only [List.append_assoc, List.append_nil, List.nil_append]) (by simp only [List.append_assoc, List.append_nil, List.nil_append]) rfl rfl) ⟨Nat.le_of_ble_eq_true rfl, Nat.le_of_ble_eq_true rfl⟩ ⟨rfl, rfl⟩ ⟨Nat.zero_le _, Nat.zero_le _⟩ rfl (Nat.le_of_ble_eq_true rfl) rfl dX4_restore_33 ?_
      refine r_aload_n dX4_restore_36 1 rfl ?_
      refine r_dup dX4_restore_37 rfl ?_
      refine gf_X4_2 (v := .int (pv 1)) 6 rfl rfl qw_148 dX4_restore_38 ?_
      refine r_iconst (v := 1) dX4_restore_41 kic_1 ?_
      refine r_isub dX4_restore_42 ?_
      refine pf_X4_2 6 rfl (Nat.le_of_ble_eq_true rfl) qw_148 dX4_restore_43 (ws' := wP Z a o33.1 o33.2.1 o33.2.2.1 o33.2.2.2.1 o33.2.2.2.2.1 o33.2.2.2.2.2 ++ (wS Z hq hs AD (upd pv 1 ((pv 1) - 1)) ++ (wP Z (AD 0) (W8 0) (E8 0) (F8 0) (M8 0) (P8 0) (R8 0) ++ (wP Z (AD 1) (W8 1) (E8 1) (F8 1) (M8 1) (P8 1) (R8 1) ++ (wP Z (AD 2) (W8 2) (E8 2) (F8 2) (M8 2) (P8 2) (R8 2) ++ (wP Z (AD 3) (W8 3) (E8 3) (F8 3) (M8 3) (P8 3) (R8 3) ++ (wP Z (AD 4) (W8 4) (E8 4) (F8 4) (M8 4) (P8 4) (R8 4) ++ (wP Z (AD 5) (W8 5) (E8 5) (F8 5) (M8 5) (P8 5) (R8 5) ++ (wP Z (AD 6) (W8 6) (E8 6) (F8 6) (M8 6) (P8 6) (R8 6) ++ (wP Z (AD 7) (W8 7) (E8 7) (F8 7) (M8 7) (P8 7) (R8 7))))))))))) rfl ?_
      exact r_vret (hE _ (Option.some.inj hg)) dX4_restore_46
    replace hg := (if_neg h19_8).symm.trans hg
    exact nomatch (show (none : Option _) = some o from hg)

set_option maxHeartbeats 4000000 in
theorem c_X4_restoreQ (Z : GZ) (l : Launch) (a : Nat → Nat) (hq : Nat) (hs : Nat) (AD : Nat → Nat → Nat) (w : Nat → Int32) (er : Nat → Int32) (fl : Nat → Int32) (me : Nat → Int32) (p : Nat → Int32) (pr : Nat → Int32) (pv : Nat → Int32) (W8 : Nat → Nat → Int32) (E8 : Nat → Nat → Int32) (F8 : Nat → Nat → Int32) (M8 : Nat → Nat → Int32) (P8 : Nat → Nat → Int32) (R8 : Nat → Nat → Int32)  (o : ((Nat → Int32) × (Nat → Int32) × (Nat → Int32) × (Nat → Int32) × (Nat → Int32) × (Nat → Int32) × (Nat → Int32))) (hg : g_X4_restore w er fl me p pr pv W8 E8 F8 M8 P8 R8 = some o) : Con Z l yX4_restore cX4_restore 3 none rm_X4_restore [.ref hq, .ref (a 0)] (wP Z a w er fl me p pr ++ (wQ Z hq hs AD pv W8 E8 F8 M8 P8 R8)) none (wP Z a o.1 o.2.1 o.2.2.1 o.2.2.2.1 o.2.2.2.2.1 o.2.2.2.2.2.1 ++ (wQ Z hq hs AD o.2.2.2.2.2.2 W8 E8 F8 M8 P8 R8)) := by
  have h9 := c_X4_restore Z l a hq hs AD w er fl me p pr pv W8 E8 F8 M8 P8 R8 o hg
  simpa only [wQ, List.append_assoc] using h9

-- TicketJournal$Image.store(LTicketJournal$Printer;)V
abbrev rm_X1_store : Room := { frames := 3, cells := 0, slots := 0, locals := 82 }
def g_X1_store (ff : Nat → Int32) (w2 : Nat → Int32) (er2 : Nat → Int32) (fl2 : Nat → Int32) (me2 : Nat → Int32) (p2 : Nat → Int32) (pr2 : Nat → Int32) (w : Nat → Int32) (er : Nat → Int32) (fl : Nat → Int32) (me : Nat → Int32) (p : Nat → Int32) (pr : Nat → Int32)  : Option ((Nat → Int32) × (Nat → Int32) × (Nat → Int32) × (Nat → Int32) × (Nat → Int32) × (Nat → Int32) × (Nat → Int32)) :=
  (g_X5_copyFrom w2 er2 fl2 me2 p2 pr2 w er fl me p pr).bind fun o5 => some ((upd ff 0 1), o5.1, o5.2.1, o5.2.2.1, o5.2.2.2.1, o5.2.2.2.2.1, o5.2.2.2.2.2)
set_option maxHeartbeats 4000000 in
set_option maxRecDepth 100000 in
theorem c_X1_store (Z : GZ) (l : Launch) (hx : Nat) (b : Nat → Nat) (a : Nat → Nat) (ff : Nat → Int32) (w2 : Nat → Int32) (er2 : Nat → Int32) (fl2 : Nat → Int32) (me2 : Nat → Int32) (p2 : Nat → Int32) (pr2 : Nat → Int32) (w : Nat → Int32) (er : Nat → Int32) (fl : Nat → Int32) (me : Nat → Int32) (p : Nat → Int32) (pr : Nat → Int32)  (o : ((Nat → Int32) × (Nat → Int32) × (Nat → Int32) × (Nat → Int32) × (Nat → Int32) × (Nat → Int32) × (Nat → Int32))) (hg : g_X1_store ff w2 er2 fl2 me2 p2 pr2 w er fl me p pr = some o) : Con Z l yX1_store cX1_store 2 none rm_X1_store [.ref hx, .ref (a 0)] (wO Z hx (b 0) ff ++ (wP Z b w2 er2 fl2 me2 p2 pr2 ++ (wP Z a w er fl me p pr))) none (wO Z hx (b 0) o.1 ++ (wP Z b o.2.1 o.2.2.1 o.2.2.2.1 o.2.2.2.2.1 o.2.2.2.2.2.1 o.2.2.2.2.2.2 ++ (wP Z a w er fl me p pr))) := by
  refine Con.of (by decide) (Nat.le_of_ble_eq_true rfl) ?_
  intro X hE0
  have hE : ∀ z, z = o → endsX X Z none none (wO Z hx (b 0) z.1 ++ (wP Z b z.2.1 z.2.2.1 z.2.2.2.1 z.2.2.2.2.1 z.2.2.2.2.2.1 z.2.2.2.2.2.2 ++ (wP Z a w er fl me p pr))) := by
    rintro _ rfl; exact hE0
  unfold g_X1_store at hg
  show AtK X Z rm_X1_store cX1_store RX1 2 0 0 (wO Z hx (b 0) ff ++ (wP Z b w2 er2 fl2 me2 p2 pr2 ++ (wP Z a w er fl me p pr))) 0 [(0, .ref hx), (1, .ref (a 0))] []
  refine r_aload_n dX1_store_0 0 rfl ?_
  refine gf_X1_0 (v := .ref (b 0)) 0 rfl rfl qw_166 dX1_store_1 ?_
  refine r_aload_n dX1_store_4 1 rfl ?_
  obtain ⟨o5, e5, hg⟩ := ob hg
  refine r_callV (As := [.ref (a 0)]) (rest := []) (ws' := wO Z hx (b 0) ff ++ (wP Z b o5.1 o5.2.1 o5.2.2.1 o5.2.2.2.1 o5.2.2.2.2.1 o5.2.2.2.2.2 ++ (wP Z a w er fl me p pr))) 0 rfl rfl rfl (fun l => c_X5_copyFrom Z l b a w2 er2 fl2 me2 p2 pr2 w er fl me p pr  o5 e5) qw_453 mv_X5_copyFrom (xPk.idx [1, 2, 3, 4, 5, 6, 7, 8, 9, 10, 11, 12] rfl rfl rfl rfl rfl) ⟨Nat.le_of_ble_eq_true rfl, Nat.le_of_ble_eq_true rfl⟩ ⟨rfl, rfl⟩ ⟨Nat.zero_le _, Nat.zero_le _⟩ rfl (Nat.le_of_ble_eq_true rfl) rfl dX1_store_5 ?_
  refine r_aload_n dX1_store_8 0 rfl ?_
  refine r_iconst (v := 1) dX1_store_9 kic_1 ?_
  refine pf_X1_1 (by decide) 0 rfl (Nat.le_of_ble_eq_true rfl) qw_168 dX1_store_10 (ws' := wO Z hx (b 0) (upd ff 0 1) ++ (wP Z b o5.1 o5.2.1 o5.2.2.1 o5.2.2.2.1 o5.2.2.2.2.1 o5.2.2.2.2.2 ++ (wP Z a w er fl me p pr))) rfl ?_
  exact r_vret (hE _ (Option.some.inj hg)) dX1_store_13
end
section
-- TicketJournal.isImage(I)Z
abbrev rm_X6_isImage : Room := { frames := 0, cells := 0, slots := 0, locals := 0 }
def g_X6_isImage_26    : Option (Int32) :=
  some (0)
def g_X6_isImage  (n1 : Int32) : Option (Int32) :=
  (if n1 < 0 then g_X6_isImage_26 else (if 2 ≤ n1 then g_X6_isImage_26 else (if n1 = 0 then some (1) else (if n1 = 1 then some (1) else none))))
set_option maxHeartbeats 4000000 in
set_option maxRecDepth 100000 in
theorem c_X6_isImage (Z : GZ) (l : Launch) (t : Nat) (pr0 : Nat) (tr0 : Nat) (hj : Nat) (hq : Nat) (hi : Nat) (IH : Nat → Nat)  (n1 : Int32) (o : (Int32)) (hg : g_X6_isImage n1 = some o) : Con Z l yX6_isImage cX6_isImage 2 (some .boolean) rm_X6_isImage [.ref t, .int n1] (wT Z t pr0 tr0 hj hq hi ++ (wI0 Z hi IH)) (some (.int o)) (wT Z t pr0 tr0 hj hq hi ++ (wI0 Z hi IH)) := by
  refine Con.of (by decide) (Nat.le_of_ble_eq_true rfl) ?_
  intro X hE0
  have hE : ∀ z, z = o → endsX X Z (some .boolean) (some (.int z)) (wT Z t pr0 tr0 hj hq hi ++ (wI0 Z hi IH)) := by
    rintro _ rfl; exact hE0
  have J26 : g_X6_isImage_26 = some o → AtK X Z rm_X6_isImage cX6_isImage RX6 2 0 0 (wT Z t pr0 tr0 hj hq hi ++ (wI0 Z hi IH)) 26 [] [] := by
    intro  hg
    unfold g_X6_isImage_26 at hg
    refine r_iconst (v := 0) dX6_isImage_26 kic_0 ?_
    exact r_bret (hE _ (Option.some.inj hg)) (by decide) dX6_isImage_27
  unfold g_X6_isImage at hg
  show AtK X Z rm_X6_isImage cX6_isImage RX6 2 0 0 (wT Z t pr0 tr0 hj hq hi ++ (wI0 Z hi IH)) 0 [(0, .ref t), (1, .int n1)] []
  refine r_iload_n dX6_isImage_0 1 rfl ?_
  refine r_if_lt (tgt := 26) dX6_isImage_1 (by decide) (fun h1 => ?_) (fun h1 => ?_)
  · replace hg := (if_pos h1).symm.trans hg
    exact r_sub [] rfl (J26 hg)
  · replace hg := (if_neg h1).symm.trans hg
    refine r_iload_n dX6_isImage_4 1 rfl ?_
    refine r_aload_n dX6_isImage_5 0 rfl ?_
    refine gf_X6_4 (v := .ref hi) 0 rfl rfl qw_179 dX6_isImage_6 ?_
    refine r_alen 1 2 rfl rfl (v := 2) (by decide) dX6_isImage_9 ?_
    refine r_icmp_ge (tgt := 26) dX6_isImage_10 (by decide) (fun h10 => ?_) (fun h10 => ?_)
    · replace hg := (if_pos h10).symm.trans hg
      exact r_sub [] rfl (J26 hg)
    · replace hg := (if_neg h10).symm.trans hg
      refine r_aload_n dX6_isImage_13 0 rfl ?_
      refine gf_X6_4 (v := .ref hi) 0 rfl rfl qw_179 dX6_isImage_14 ?_
      refine r_iload_n dX6_isImage_17 1 rfl ?_
      by_cases h18_0 : n1 = 0
      · replace hg := (if_pos h18_0).symm.trans hg
        refine r_aald 1 2 rfl rfl (by rw [h18_0]; decide) (v := .ref (IH 0)) (by rw [h18_0]; rfl) dX6_isImage_18 ?_
        refine r_ifnull dX6_isImage_19 ?_
        refine r_iconst (v := 1) dX6_isImage_22 kic_1 ?_
        refine r_goto (tgt := 27) dX6_isImage_23 (by decide) ?_
        exact r_bret (hE _ (Option.some.inj hg)) (by decide) dX6_isImage_27
      replace hg := (if_neg h18_0).symm.trans hg
      by_cases h18_1 : n1 = 1
      · replace hg := (if_pos h18_1).symm.trans hg
        refine r_aald 1 2 rfl rfl (by rw [h18_1]; decide) (v := .ref (IH 1)) (by rw [h18_1]; rfl) dX6_isImage_18 ?_
        refine r_ifnull dX6_isImage_19 ?_
        refine r_iconst (v := 1) dX6_isImage_22 kic_1 ?_
        refine r_goto (tgt := 27) dX6_isImage_23 (by decide) ?_
        exact r_bret (hE _ (Option.some.inj hg)) (by decide) dX6_isImage_27
      replace hg := (if_neg h18_1).symm.trans hg
      exact nomatch (show (none : Option _) = some o from hg)

-- TicketJournal.word(II)I
abbrev rm_X6_word : Room := { frames := 2, cells := 0, slots := 0, locals := 42 }
def g_X6_word_32 (w : Nat → Int32)   : Option (Int32) :=
  some ((-1))
def g_X6_word (w : Nat → Int32) (n1 : Int32) (n2 : Int32) : Option (Int32) :=
  (g_X6_isBlock n1).bind fun o1 => (if o1 = 0 then g_X6_word_32 w else (g_X6_isWithin n2 0 21).bind fun o11 => (if o11 = 0 then g_X6_word_32 w else (g_X0_read w n1 n2).bind fun o26 => some (o26)))
set_option maxHeartbeats 4000000 in
set_option maxRecDepth 100000 in
theorem c_X6_word (Z : GZ) (l : Launch) (t : Nat) (tr0 : Nat) (hj : Nat) (hq : Nat) (hi : Nat) (a : Nat → Nat) (w : Nat → Int32) (er : Nat → Int32) (fl : Nat → Int32) (me : Nat → Int32) (p : Nat → Int32) (pr : Nat → Int32) (n1 : Int32) (n2 : Int32) (o : (Int32)) (hg : g_X6_word w n1 n2 = some o) : Con Z l yX6_word cX6_word 3 (some .int) rm_X6_word [.ref t, .int n1, .int n2] (wT Z t (a 0) tr0 hj hq hi ++ (wP Z a w er fl me p pr)) (some (.int o)) (wT Z t (a 0) tr0 hj hq hi ++ (wP Z a w er fl me p pr)) := by
  refine Con.of (by decide) (Nat.le_of_ble_eq_true rfl) ?_
  intro X hE0
  have hE : ∀ z, z = o → endsX X Z (some .int) (some (.int z)) (wT Z t (a 0) tr0 hj hq hi ++ (wP Z a w er fl me p pr)) := by
    rintro _ rfl; exact hE0
  have J32 : g_X6_word_32 w = some o → AtK X Z rm_X6_word cX6_word RX6 3 0 0 (wT Z t (a 0) tr0 hj hq hi ++ (wP Z a w er fl me p pr)) 32 [] [] := by
    intro  hg
    unfold g_X6_word_32 at hg
    refine r_iconst (v := (-1)) dX6_word_32 kic_m1 ?_
    exact r_iret (hE _ (Option.some.inj hg)) dX6_word_33
  unfold g_X6_word at hg
  show AtK X Z rm_X6_word cX6_word RX6 3 0 0 (wT Z t (a 0) tr0 hj hq hi ++ (wP Z a w er fl me p pr)) 0 [(0, .ref t), (1, .int n1), (2, .int n2)] []
  refine r_iload_n dX6_word_0 1 rfl ?_
  obtain ⟨o1, e1, hg⟩ := ob hg
  refine r_callS (As := [.int n1]) (rest := []) (ws' := wT Z t (a 0) tr0 hj hq hi ++ (wP Z a w er fl me p pr)) (fun l => c_X6_isBlock Z l   n1 o1 e1) qw_494 ms_X6_isBlock xPk.none ⟨Nat.le_of_ble_eq_true rfl, Nat.le_of_ble_eq_true rfl⟩ ⟨rfl, rfl⟩ ⟨Nat.zero_le _, Nat.zero_le _⟩ rfl (Nat.le_of_ble_eq_true rfl) rfl dX6_word_1 ?_
  refine r_if_eq (tgt := 32) dX6_word_4 (by decide) (fun h4 => ?_) (fun h4 => ?_)
  · replace hg := (if_pos h4).symm.trans hg
    exact r_sub [] rfl (J32 hg)
  · replace hg := (if_neg h4).symm.trans hg
    refine r_iload_n dX6_word_7 2 rfl ?_
    refine r_iconst (v := 0) dX6_word_8 kic_0 ?_
    refine r_bipush (v := 21) dX6_word_9 kbp_21 ?_
    obtain ⟨o11, e11, hg⟩ := ob hg
    refine r_callS (As := [.int n2, .int 0, .int 21]) (rest := []) (ws' := wT Z t (a 0) tr0 hj hq hi ++ (wP Z a w er fl me p pr)) (fun l => c_X6_isWithin Z l   n2 0 21 o11 e11) qw_195 ms_X6_isWithin xPk.none ⟨Nat.le_of_ble_eq_true rfl, Nat.le_of_ble_eq_true rfl⟩ ⟨rfl, rfl⟩ ⟨Nat.zero_le _, Nat.zero_le _⟩ rfl (Nat.le_of_ble_eq_true rfl) rfl dX6_word_11 ?_
    refine r_if_eq (tgt := 32) dX6_word_14 (by decide) (fun h14 => ?_) (fun h14 => ?_)
    · replace hg := (if_pos h14).symm.trans hg
      exact r_sub [] rfl (J32 hg)
    · replace hg := (if_neg h14).symm.trans hg
      refine r_aload_n dX6_word_17 0 rfl ?_
      refine gf_X6_0 (v := .ref (a 0)) 0 rfl rfl qw_175 dX6_word_18 ?_
      refine gfN_X5_0 (v := .ref (a 1)) 1 rfl rfl qw_97 dX6_word_21 ?_
      refine r_iload_n dX6_word_24 1 rfl ?_
      refine r_iload_n dX6_word_25 2 rfl ?_
      obtain ⟨o26, e26, hg⟩ := ob hg
      refine r_callV (As := [.int n1, .int n2]) (rest := []) (ws' := wT Z t (a 0) tr0 hj hq hi ++ (wP Z a w er fl me p pr)) 0 rfl rfl rfl (fun l => c_X0_read Z l (a 1) (a 2) (a 3) w er fl n1 n2 o26 e26) qw_498 mv_X0_read (xPk.idx [2, 3, 4] rfl rfl rfl rfl rfl) ⟨Nat.le_of_ble_eq_true rfl, Nat.le_of_ble_eq_true rfl⟩ ⟨rfl, rfl⟩ ⟨Nat.zero_le _, Nat.zero_le _⟩ rfl (Nat.le_of_ble_eq_true rfl) rfl dX6_word_26 ?_
      refine r_goto (tgt := 33) dX6_word_29 (by decide) ?_
      exact r_iret (hE _ (Option.some.inj hg)) dX6_word_33

-- TicketJournal.block(II)I
abbrev rm_X6_block : Room := { frames := 5, cells := 0, slots := 0, locals := 116 }
def g_X6_block (w : Nat → Int32) (er : Nat → Int32) (n1 : Int32) (n2 : Int32) : Option (Int32) :=
  (g_X6_isBlock n1).bind fun o1 => (if o1 = 0 then some ((-1)) else (if n2 = 0 then (g_X0_isWhole w n1).bind fun o54 => (if o54 = 0 then some (0) else some (1)) else (if n2 = 1 then (g_X0_isWhole w n1).bind fun o68 => (if o68 = 0 then some ((-9)) else (g_X0_read w n1 0).bind fun o77 => some (o77)) else (if n2 = 2 then (g_X0_tallyIn w n1 1).bind fun o89 => some (o89) else (if n2 = 3 then (g_X0_tallyIn w n1 2).bind fun o96 => some (o96) else (if n2 = 4 then (g_X0_erasuresOf er n1).bind fun o102 => some (o102) else some ((-1))))))))
set_option maxHeartbeats 4000000 in
set_option maxRecDepth 100000 in
theorem c_X6_block (Z : GZ) (l : Launch) (t : Nat) (tr0 : Nat) (hj : Nat) (hq : Nat) (hi : Nat) (a : Nat → Nat) (w : Nat → Int32) (er : Nat → Int32) (fl : Nat → Int32) (me : Nat → Int32) (p : Nat → Int32) (pr : Nat → Int32) (n1 : Int32) (n2 : Int32) (o : (Int32)) (hg : g_X6_block w er n1 n2 = some o) : Con Z l yX6_block cX6_block 4 (some .int) rm_X6_block [.ref t, .int n1, .int n2] (wT Z t (a 0) tr0 hj hq hi ++ (wP Z a w er fl me p pr)) (some (.int o)) (wT Z t (a 0) tr0 hj hq hi ++ (wP Z a w er fl me p pr)) := by
  refine Con.of (by decide) (Nat.le_of_ble_eq_true rfl) ?_
  intro X hE0
  have hE : ∀ z, z = o → endsX X Z (some .int) (some (.int z)) (wT Z t (a 0) tr0 hj hq hi ++ (wP Z a w er fl me p pr)) := by
    rintro _ rfl; exact hE0
  unfold g_X6_block at hg
  show AtK X Z rm_X6_block cX6_block RX6 4 0 0 (wT Z t (a 0) tr0 hj hq hi ++ (wP Z a w er fl me p pr)) 0 [(0, .ref t), (1, .int n1), (2, .int n2)] []
  refine r_iload_n dX6_block_0 1 rfl ?_
  obtain ⟨o1, e1, hg⟩ := ob hg
  refine r_callS (As := [.int n1]) (rest := []) (ws' := wT Z t (a 0) tr0 hj hq hi ++ (wP Z a w er fl me p pr)) (fun l => c_X6_isBlock Z l   n1 o1 e1) qw_494 ms_X6_isBlock xPk.none ⟨Nat.le_of_ble_eq_true rfl, Nat.le_of_ble_eq_true rfl⟩ ⟨rfl, rfl⟩ ⟨Nat.zero_le _, Nat.zero_le _⟩ rfl (Nat.le_of_ble_eq_true rfl) rfl dX6_block_1 ?_
  refine r_if_ne (tgt := 9) dX6_block_4 (by decide) (fun h4 => ?_) (fun h4 => ?_)
  · replace hg := (if_neg h4).symm.trans hg
    refine r_aload_n dX6_block_9 0 rfl ?_
    refine gf_X6_0 (v := .ref (a 0)) 0 rfl rfl qw_175 dX6_block_10 ?_
    refine gfN_X5_0 (v := .ref (a 1)) 1 rfl rfl qw_97 dX6_block_13 ?_
    refine r_astore_n (lv' := [(3, .ref (a 1)), (0, .ref t), (1, .int n1), (2, .int n2)]) dX6_block_16 (by decide) rfl ?_
    refine r_iload_n dX6_block_17 3 rfl ?_
    by_cases h18_0 : n2 = 0
    · replace hg := (if_pos h18_0).symm.trans hg
      refine r_tableIn (tgt := 52) (off := 34) dX6_block_18 (by rw [h18_0]; decide) (by rw [h18_0]; decide) (by rw [h18_0]; decide) (by decide) ?_
      refine r_aload_n dX6_block_52 0 rfl ?_
      refine r_iload_n dX6_block_53 2 rfl ?_
      obtain ⟨o54, e54, hg⟩ := ob hg
      refine r_callV (As := [.int n1]) (rest := []) (ws' := wT Z t (a 0) tr0 hj hq hi ++ (wP Z a w er fl me p pr)) 0 rfl rfl rfl (fun l => c_X0_isWhole Z l (a 1) (a 2) (a 3) w er fl n1 o54 e54) qw_497 mv_X0_isWhole (xPk.idx [2, 3, 4] rfl rfl rfl rfl rfl) ⟨Nat.le_of_ble_eq_true rfl, Nat.le_of_ble_eq_true rfl⟩ ⟨rfl, rfl⟩ ⟨Nat.zero_le _, Nat.zero_le _⟩ rfl (Nat.le_of_ble_eq_true rfl) rfl dX6_block_54 ?_
      refine r_if_eq (tgt := 64) dX6_block_57 (by decide) (fun h57 => ?_) (fun h57 => ?_)
      · replace hg := (if_pos h57).symm.trans hg
        refine r_iconst (v := 0) dX6_block_64 kic_0 ?_
        exact r_iret (hE _ (Option.some.inj hg)) dX6_block_65
      · replace hg := (if_neg h57).symm.trans hg
        refine r_iconst (v := 1) dX6_block_60 kic_1 ?_
        refine r_goto (tgt := 65) dX6_block_61 (by decide) ?_
        exact r_iret (hE _ (Option.some.inj hg)) dX6_block_65
    replace hg := (if_neg h18_0).symm.trans hg
    by_cases h18_1 : n2 = 1
    · replace hg := (if_pos h18_1).symm.trans hg
      refine r_tableIn (tgt := 66) (off := 48) dX6_block_18 (by rw [h18_1]; decide) (by rw [h18_1]; decide) (by rw [h18_1]; decide) (by decide) ?_
      refine r_aload_n dX6_block_66 0 rfl ?_
      refine r_iload_n dX6_block_67 2 rfl ?_
      obtain ⟨o68, e68, hg⟩ := ob hg
      refine r_callV (As := [.int n1]) (rest := []) (ws' := wT Z t (a 0) tr0 hj hq hi ++ (wP Z a w er fl me p pr)) 0 rfl rfl rfl (fun l => c_X0_isWhole Z l (a 1) (a 2) (a 3) w er fl n1 o68 e68) qw_497 mv_X0_isWhole (xPk.idx [2, 3, 4] rfl rfl rfl rfl rfl) ⟨Nat.le_of_ble_eq_true rfl, Nat.le_of_ble_eq_true rfl⟩ ⟨rfl, rfl⟩ ⟨Nat.zero_le _, Nat.zero_le _⟩ rfl (Nat.le_of_ble_eq_true rfl) rfl dX6_block_68 ?_
      refine r_if_eq (tgt := 83) dX6_block_71 (by decide) (fun h71 => ?_) (fun h71 => ?_)
      · replace hg := (if_pos h71).symm.trans hg
        refine r_bipush (v := (-9)) dX6_block_83 kbp_m9 ?_
        exact r_iret (hE _ (Option.some.inj hg)) dX6_block_85
      · replace hg := (if_neg h71).symm.trans hg
        refine r_aload_n dX6_block_74 0 rfl ?_
        refine r_iload_n dX6_block_75 2 rfl ?_
        refine r_iconst (v := 0) dX6_block_76 kic_0 ?_
        obtain ⟨o77, e77, hg⟩ := ob hg
        refine r_callV (As := [.int n1, .int 0]) (rest := []) (ws' := wT Z t (a 0) tr0 hj hq hi ++ (wP Z a w er fl me p pr)) 0 rfl rfl rfl (fun l => c_X0_read Z l (a 1) (a 2) (a 3) w er fl n1 0 o77 e77) qw_498 mv_X0_read (xPk.idx [2, 3, 4] rfl rfl rfl rfl rfl) ⟨Nat.le_of_ble_eq_true rfl, Nat.le_of_ble_eq_true rfl⟩ ⟨rfl, rfl⟩ ⟨Nat.zero_le _, Nat.zero_le _⟩ rfl (Nat.le_of_ble_eq_true rfl) rfl dX6_block_77 ?_
        refine r_goto (tgt := 85) dX6_block_80 (by decide) ?_
        exact r_iret (hE _ (Option.some.inj hg)) dX6_block_85
    replace hg := (if_neg h18_1).symm.trans hg
    by_cases h18_2 : n2 = 2
    · replace hg := (if_pos h18_2).symm.trans hg
      refine r_tableIn (tgt := 86) (off := 68) dX6_block_18 (by rw [h18_2]; decide) (by rw [h18_2]; decide) (by rw [h18_2]; decide) (by decide) ?_
      refine r_aload_n dX6_block_86 0 rfl ?_
      refine r_iload_n dX6_block_87 2 rfl ?_
      refine r_iconst (v := 1) dX6_block_88 kic_1 ?_
      obtain ⟨o89, e89, hg⟩ := ob hg
      refine r_callV (As := [.int n1, .int 1]) (rest := []) (ws' := wT Z t (a 0) tr0 hj hq hi ++ (wP Z a w er fl me p pr)) 0 rfl rfl rfl (fun l => c_X0_tallyIn Z l (a 1) (a 2) (a 3) w er fl n1 1 o89 e89) qw_499 mv_X0_tallyIn (xPk.idx [2, 3, 4] rfl rfl rfl rfl rfl) ⟨Nat.le_of_ble_eq_true rfl, Nat.le_of_ble_eq_true rfl⟩ ⟨rfl, rfl⟩ ⟨Nat.zero_le _, Nat.zero_le _⟩ rfl (Nat.le_of_ble_eq_true rfl) rfl dX6_block_89 ?_
      exact r_iret (hE _ (Option.some.inj hg)) dX6_block_92
    replace hg := (if_neg h18_2).symm.trans hg
    by_cases h18_3 : n2 = 3
    · replace hg := (if_pos h18_3).symm.trans hg
      refine r_tableIn (tgt := 93) (off := 75) dX6_block_18 (by rw [h18_3]; decide) (by rw [h18_3]; decide) (by rw [h18_3]; decide) (by decide) ?_
      refine r_aload_n dX6_block_93 0 rfl ?_
      refine r_iload_n dX6_block_94 2 rfl ?_
      refine r_iconst (v := 2) dX6_block_95 kic_2 ?_
      obtain ⟨o96, e96, hg⟩ := ob hg
      refine r_callV (As := [.int n1, .int 2]) (rest := []) (ws' := wT Z t (a 0) tr0 hj hq hi ++ (wP Z a w er fl me p pr)) 0 rfl rfl rfl (fun l => c_X0_tallyIn Z l (a 1) (a 2) (a 3) w er fl n1 2 o96 e96) qw_499 mv_X0_tallyIn (xPk.idx [2, 3, 4] rfl rfl rfl rfl rfl) ⟨Nat.le_of_ble_eq_true rfl, Nat.le_of_ble_eq_true rfl⟩ ⟨rfl, rfl⟩ ⟨Nat.zero_le _, Nat.zero_le _⟩ rfl (Nat.le_of_ble_eq_true rfl) rfl dX6_block_96 ?_
      exact r_iret (hE _ (Option.some.inj hg)) dX6_block_99
    replace hg := (if_neg h18_3).symm.trans hg
    by_cases h18_4 : n2 = 4
    · replace hg := (if_pos h18_4).symm.trans hg
      refine r_tableIn (tgt := 100) (off := 82) dX6_block_18 (by rw [h18_4]; decide) (by rw [h18_4]; decide) (by rw [h18_4]; decide) (by decide) ?_
      refine r_aload_n dX6_block_100 0 rfl ?_
      refine r_iload_n dX6_block_101 2 rfl ?_
      obtain ⟨o102, e102, hg⟩ := ob hg
      refine r_callV (As := [.int n1]) (rest := []) (ws' := wT Z t (a 0) tr0 hj hq hi ++ (wP Z a w er fl me p pr)) 0 rfl rfl rfl (fun l => c_X0_erasuresOf Z l (a 1) (a 2) (a 3) w er fl n1 o102 e102) qw_500 mv_X0_erasuresOf (xPk.idx [2, 3, 4] rfl rfl rfl rfl rfl) ⟨Nat.le_of_ble_eq_true rfl, Nat.le_of_ble_eq_true rfl⟩ ⟨rfl, rfl⟩ ⟨Nat.zero_le _, Nat.zero_le _⟩ rfl (Nat.le_of_ble_eq_true rfl) rfl dX6_block_102 ?_
      exact r_iret (hE _ (Option.some.inj hg)) dX6_block_105
    replace hg := (if_neg h18_4).symm.trans hg
    have n18_0 : ¬ n2.toInt = 0 := x_nei (by decide) h18_0
    have n18_1 : ¬ n2.toInt = 1 := x_nei (by decide) h18_1
    have n18_2 : ¬ n2.toInt = 2 := x_nei (by decide) h18_2
    have n18_3 : ¬ n2.toInt = 3 := x_nei (by decide) h18_3
    have n18_4 : ¬ n2.toInt = 4 := x_nei (by decide) h18_4
    refine r_tableOut (tgt := 106) dX6_block_18 (by omega) (by decide) ?_
    refine r_iconst (v := (-1)) dX6_block_106 kic_m1 ?_
    exact r_iret (hE _ (Option.some.inj hg)) dX6_block_107
  · replace hg := (if_pos h4).symm.trans hg
    refine r_iconst (v := (-1)) dX6_block_7 kic_m1 ?_
    exact r_iret (hE _ (Option.some.inj hg)) dX6_block_8

-- TicketJournal.knownNumber(I)I
abbrev rm_X6_knownNumber : Room := { frames := 0, cells := 0, slots := 0, locals := 0 }
def g_X6_knownNumber (me : Nat → Int32) (pr : Nat → Int32) (n1 : Int32) : Option (Int32) :=
  (if (pr 0) = 0 then some ((-9)) else (if n1 = 2 then some ((me 2)) else (if n1 = 3 then some ((me 3)) else (if n1 = 4 then some ((me 4)) else (if n1 = 5 then some ((me 5)) else (if n1 = 6 then some ((me 0)) else some ((me 1))))))))
set_option maxHeartbeats 4000000 in
set_option maxRecDepth 100000 in
theorem c_X6_knownNumber (Z : GZ) (l : Launch) (t : Nat) (tr0 : Nat) (hj : Nat) (hq : Nat) (hi : Nat) (a : Nat → Nat) (w : Nat → Int32) (er : Nat → Int32) (fl : Nat → Int32) (me : Nat → Int32) (p : Nat → Int32) (pr : Nat → Int32) (n1 : Int32) (o : (Int32)) (hg : g_X6_knownNumber me pr n1 = some o) : Con Z l yX6_knownNumber cX6_knownNumber 2 (some .int) rm_X6_knownNumber [.ref t, .int n1] (wT Z t (a 0) tr0 hj hq hi ++ (wP Z a w er fl me p pr)) (some (.int o)) (wT Z t (a 0) tr0 hj hq hi ++ (wP Z a w er fl me p pr)) := by
  refine Con.of (by decide) (Nat.le_of_ble_eq_true rfl) ?_
  intro X hE0
  have hE : ∀ z, z = o → endsX X Z (some .int) (some (.int z)) (wT Z t (a 0) tr0 hj hq hi ++ (wP Z a w er fl me p pr)) := by
    rintro _ rfl; exact hE0
  unfold g_X6_knownNumber at hg
  show AtK X Z rm_X6_knownNumber cX6_knownNumber RX6 2 0 0 (wT Z t (a 0) tr0 hj hq hi ++ (wP Z a w er fl me p pr)) 0 [(0, .ref t), (1, .int n1)] []
  refine r_aload_n dX6_knownNumber_0 0 rfl ?_
  refine gf_X6_0 (v := .ref (a 0)) 0 rfl rfl qw_175 dX6_knownNumber_1 ?_
  refine gfN_X5_3 (v := .int (pr 0)) 1 rfl rfl qw_102 dX6_knownNumber_4 ?_
  refine r_if_ne (tgt := 13) dX6_knownNumber_7 (by decide) (fun h7 => ?_) (fun h7 => ?_)
  · replace hg := (if_neg h7).symm.trans hg
    refine r_iload_n dX6_knownNumber_13 1 rfl ?_
    by_cases h14_2 : n1 = 2
    · replace hg := (if_pos h14_2).symm.trans hg
      refine r_tableIn (tgt := 48) (off := 34) dX6_knownNumber_14 (by rw [h14_2]; decide) (by rw [h14_2]; decide) (by rw [h14_2]; decide) (by decide) ?_
      refine r_aload_n dX6_knownNumber_48 0 rfl ?_
      refine gf_X6_0 (v := .ref (a 0)) 0 rfl rfl qw_175 dX6_knownNumber_49 ?_
      refine gfN_X5_1 (v := .ref (a 4)) 1 rfl rfl qw_99 dX6_knownNumber_52 ?_
      refine gfN_X3_2 (v := .int (me 2)) 5 rfl rfl qw_73 dX6_knownNumber_55 ?_
      exact r_iret (hE _ (Option.some.inj hg)) dX6_knownNumber_58
    replace hg := (if_neg h14_2).symm.trans hg
    by_cases h14_3 : n1 = 3
    · replace hg := (if_pos h14_3).symm.trans hg
      refine r_tableIn (tgt := 59) (off := 45) dX6_knownNumber_14 (by rw [h14_3]; decide) (by rw [h14_3]; decide) (by rw [h14_3]; decide) (by decide) ?_
      refine r_aload_n dX6_knownNumber_59 0 rfl ?_
      refine gf_X6_0 (v := .ref (a 0)) 0 rfl rfl qw_175 dX6_knownNumber_60 ?_
      refine gfN_X5_1 (v := .ref (a 4)) 1 rfl rfl qw_99 dX6_knownNumber_63 ?_
      refine gfN_X3_3 (v := .int (me 3)) 5 rfl rfl qw_76 dX6_knownNumber_66 ?_
      exact r_iret (hE _ (Option.some.inj hg)) dX6_knownNumber_69
    replace hg := (if_neg h14_3).symm.trans hg
    by_cases h14_4 : n1 = 4
    · replace hg := (if_pos h14_4).symm.trans hg
      refine r_tableIn (tgt := 70) (off := 56) dX6_knownNumber_14 (by rw [h14_4]; decide) (by rw [h14_4]; decide) (by rw [h14_4]; decide) (by decide) ?_
      refine r_aload_n dX6_knownNumber_70 0 rfl ?_
      refine gf_X6_0 (v := .ref (a 0)) 0 rfl rfl qw_175 dX6_knownNumber_71 ?_
      refine gfN_X5_1 (v := .ref (a 4)) 1 rfl rfl qw_99 dX6_knownNumber_74 ?_
      refine gfN_X3_4 (v := .int (me 4)) 5 rfl rfl qw_78 dX6_knownNumber_77 ?_
      exact r_iret (hE _ (Option.some.inj hg)) dX6_knownNumber_80
    replace hg := (if_neg h14_4).symm.trans hg
    by_cases h14_5 : n1 = 5
    · replace hg := (if_pos h14_5).symm.trans hg
      refine r_tableIn (tgt := 81) (off := 67) dX6_knownNumber_14 (by rw [h14_5]; decide) (by rw [h14_5]; decide) (by rw [h14_5]; decide) (by decide) ?_
      refine r_aload_n dX6_knownNumber_81 0 rfl ?_
      refine gf_X6_0 (v := .ref (a 0)) 0 rfl rfl qw_175 dX6_knownNumber_82 ?_
      refine gfN_X5_1 (v := .ref (a 4)) 1 rfl rfl qw_99 dX6_knownNumber_85 ?_
      refine gfN_X3_5 (v := .int (me 5)) 5 rfl rfl qw_82 dX6_knownNumber_88 ?_
      exact r_iret (hE _ (Option.some.inj hg)) dX6_knownNumber_91
    replace hg := (if_neg h14_5).symm.trans hg
    by_cases h14_6 : n1 = 6
    · replace hg := (if_pos h14_6).symm.trans hg
      refine r_tableIn (tgt := 92) (off := 78) dX6_knownNumber_14 (by rw [h14_6]; decide) (by rw [h14_6]; decide) (by rw [h14_6]; decide) (by decide) ?_
      refine r_aload_n dX6_knownNumber_92 0 rfl ?_
      refine gf_X6_0 (v := .ref (a 0)) 0 rfl rfl qw_175 dX6_knownNumber_93 ?_
      refine gfN_X5_1 (v := .ref (a 4)) 1 rfl rfl qw_99 dX6_knownNumber_96 ?_
      refine gfN_X3_0 (v := .int (me 0)) 5 rfl rfl qw_67 dX6_knownNumber_99 ?_
      exact r_iret (hE _ (Option.some.inj hg)) dX6_knownNumber_102
    replace hg := (if_neg h14_6).symm.trans hg
    have n14_2 : ¬ n1.toInt = 2 := x_nei (by decide) h14_2
    have n14_3 : ¬ n1.toInt = 3 := x_nei (by decide) h14_3
    have n14_4 : ¬ n1.toInt = 4 := x_nei (by decide) h14_4
    have n14_5 : ¬ n1.toInt = 5 := x_nei (by decide) h14_5
    have n14_6 : ¬ n1.toInt = 6 := x_nei (by decide) h14_6
    refine r_tableOut (tgt := 103) dX6_knownNumber_14 (by omega) (by decide) ?_
    refine r_aload_n dX6_knownNumber_103 0 rfl ?_
    refine gf_X6_0 (v := .ref (a 0)) 0 rfl rfl qw_175 dX6_knownNumber_104 ?_
    refine gfN_X5_1 (v := .ref (a 4)) 1 rfl rfl qw_99 dX6_knownNumber_107 ?_
    refine gfN_X3_1 (v := .int (me 1)) 5 rfl rfl qw_70 dX6_knownNumber_110 ?_
    exact r_iret (hE _ (Option.some.inj hg)) dX6_knownNumber_113
  · replace hg := (if_pos h7).symm.trans hg
    refine r_bipush (v := (-9)) dX6_knownNumber_10 kbp_m9 ?_
    exact r_iret (hE _ (Option.some.inj hg)) dX6_knownNumber_12

-- TicketJournal.told(I)I
abbrev rm_X6_told : Room := { frames := 1, cells := 0, slots := 0, locals := 22 }
def g_X6_told (fl : Nat → Int32) (me : Nat → Int32) (pr : Nat → Int32) (pv : Nat → Int32) (n1 : Int32) : Option (Int32) :=
  (if n1 = 0 then (if (pr 0) = 0 then some (0) else some (1)) else (if n1 = 1 then some ((pr 1)) else (if n1 = 8 then some ((pr 2)) else (if n1 = 9 then some ((pr 3)) else (if n1 = 10 then some ((fl 0)) else (if n1 = 11 then some ((fl 1)) else (if n1 = 12 then some ((pv 1)) else (g_X6_isWithin n1 2 7).bind fun o142 => (if o142 = 0 then some ((-1)) else (g_X6_knownNumber me pr n1).bind fun o150 => some (o150)))))))))
set_option maxHeartbeats 4000000 in
set_option maxRecDepth 100000 in
theorem c_X6_told (Z : GZ) (l : Launch) (t : Nat) (tr0 : Nat) (hj : Nat) (hq : Nat) (hi : Nat) (a : Nat → Nat) (hs : Nat) (w : Nat → Int32) (er : Nat → Int32) (fl : Nat → Int32) (me : Nat → Int32) (p : Nat → Int32) (pr : Nat → Int32) (pv : Nat → Int32) (n1 : Int32) (o : (Int32)) (hg : g_X6_told fl me pr pv n1 = some o) : Con Z l yX6_told cX6_told 2 (some .int) rm_X6_told [.ref t, .int n1] (wT Z t (a 0) tr0 hj hq hi ++ (wP Z a w er fl me p pr ++ (wQ1 Z hq hs pv))) (some (.int o)) (wT Z t (a 0) tr0 hj hq hi ++ (wP Z a w er fl me p pr ++ (wQ1 Z hq hs pv))) := by
  refine Con.of (by decide) (Nat.le_of_ble_eq_true rfl) ?_
  intro X hE0
  have hE : ∀ z, z = o → endsX X Z (some .int) (some (.int z)) (wT Z t (a 0) tr0 hj hq hi ++ (wP Z a w er fl me p pr ++ (wQ1 Z hq hs pv))) := by
    rintro _ rfl; exact hE0
  unfold g_X6_told at hg
  show AtK X Z rm_X6_told cX6_told RX6 2 0 0 (wT Z t (a 0) tr0 hj hq hi ++ (wP Z a w er fl me p pr ++ (wQ1 Z hq hs pv))) 0 [(0, .ref t), (1, .int n1)] []
  refine r_iload_n dX6_told_0 1 rfl ?_
  by_cases h1_0 : n1 = 0
  · replace hg := (if_pos h1_0).symm.trans hg
    refine r_tableIn (tgt := 68) (off := 67) dX6_told_1 (by rw [h1_0]; decide) (by rw [h1_0]; decide) (by rw [h1_0]; decide) (by decide) ?_
    refine r_aload_n dX6_told_68 0 rfl ?_
    refine gf_X6_0 (v := .ref (a 0)) 0 rfl rfl qw_175 dX6_told_69 ?_
    refine gfN_X5_3 (v := .int (pr 0)) 1 rfl rfl qw_102 dX6_told_72 ?_
    refine r_if_eq (tgt := 82) dX6_told_75 (by decide) (fun h75 => ?_) (fun h75 => ?_)
    · replace hg := (if_pos h75).symm.trans hg
      refine r_iconst (v := 0) dX6_told_82 kic_0 ?_
      exact r_iret (hE _ (Option.some.inj hg)) dX6_told_83
    · replace hg := (if_neg h75).symm.trans hg
      refine r_iconst (v := 1) dX6_told_78 kic_1 ?_
      refine r_goto (tgt := 83) dX6_told_79 (by decide) ?_
      exact r_iret (hE _ (Option.some.inj hg)) dX6_told_83
  replace hg := (if_neg h1_0).symm.trans hg
  by_cases h1_1 : n1 = 1
  · replace hg := (if_pos h1_1).symm.trans hg
    refine r_tableIn (tgt := 84) (off := 83) dX6_told_1 (by rw [h1_1]; decide) (by rw [h1_1]; decide) (by rw [h1_1]; decide) (by decide) ?_
    refine r_aload_n dX6_told_84 0 rfl ?_
    refine gf_X6_0 (v := .ref (a 0)) 0 rfl rfl qw_175 dX6_told_85 ?_
    refine gfN_X5_4 (v := .int (pr 1)) 1 rfl rfl qw_104 dX6_told_88 ?_
    exact r_iret (hE _ (Option.some.inj hg)) dX6_told_91
  replace hg := (if_neg h1_1).symm.trans hg
  by_cases h1_8 : n1 = 8
  · replace hg := (if_pos h1_8).symm.trans hg
    refine r_tableIn (tgt := 92) (off := 91) dX6_told_1 (by rw [h1_8]; decide) (by rw [h1_8]; decide) (by rw [h1_8]; decide) (by decide) ?_
    refine r_aload_n dX6_told_92 0 rfl ?_
    refine gf_X6_0 (v := .ref (a 0)) 0 rfl rfl qw_175 dX6_told_93 ?_
    refine gfN_X5_5 (v := .int (pr 2)) 1 rfl rfl qw_106 dX6_told_96 ?_
    exact r_iret (hE _ (Option.some.inj hg)) dX6_told_99
  replace hg := (if_neg h1_8).symm.trans hg
  by_cases h1_9 : n1 = 9
  · replace hg := (if_pos h1_9).symm.trans hg
    refine r_tableIn (tgt := 100) (off := 99) dX6_told_1 (by rw [h1_9]; decide) (by rw [h1_9]; decide) (by rw [h1_9]; decide) (by decide) ?_
    refine r_aload_n dX6_told_100 0 rfl ?_
    refine gf_X6_0 (v := .ref (a 0)) 0 rfl rfl qw_175 dX6_told_101 ?_
    refine gfN_X5_6 (v := .int (pr 3)) 1 rfl rfl qw_108 dX6_told_104 ?_
    exact r_iret (hE _ (Option.some.inj hg)) dX6_told_107
  replace hg := (if_neg h1_9).symm.trans hg
  by_cases h1_10 : n1 = 10
  · replace hg := (if_pos h1_10).symm.trans hg
    refine r_tableIn (tgt := 108) (off := 107) dX6_told_1 (by rw [h1_10]; decide) (by rw [h1_10]; decide) (by rw [h1_10]; decide) (by decide) ?_
    refine r_aload_n dX6_told_108 0 rfl ?_
    refine gf_X6_0 (v := .ref (a 0)) 0 rfl rfl qw_175 dX6_told_109 ?_
    refine gfN_X5_0 (v := .ref (a 1)) 1 rfl rfl qw_97 dX6_told_112 ?_
    refine gfN_X0_2 (v := .int (fl 0)) 2 rfl rfl qw_46 dX6_told_115 ?_
    exact r_iret (hE _ (Option.some.inj hg)) dX6_told_118
  replace hg := (if_neg h1_10).symm.trans hg
  by_cases h1_11 : n1 = 11
  · replace hg := (if_pos h1_11).symm.trans hg
    refine r_tableIn (tgt := 119) (off := 118) dX6_told_1 (by rw [h1_11]; decide) (by rw [h1_11]; decide) (by rw [h1_11]; decide) (by decide) ?_
    refine r_aload_n dX6_told_119 0 rfl ?_
    refine gf_X6_0 (v := .ref (a 0)) 0 rfl rfl qw_175 dX6_told_120 ?_
    refine gfN_X5_0 (v := .ref (a 1)) 1 rfl rfl qw_97 dX6_told_123 ?_
    refine gfN_X0_3 (v := .int (fl 1)) 2 rfl rfl qw_48 dX6_told_126 ?_
    exact r_iret (hE _ (Option.some.inj hg)) dX6_told_129
  replace hg := (if_neg h1_11).symm.trans hg
  by_cases h1_12 : n1 = 12
  · replace hg := (if_pos h1_12).symm.trans hg
    refine r_tableIn (tgt := 130) (off := 129) dX6_told_1 (by rw [h1_12]; decide) (by rw [h1_12]; decide) (by rw [h1_12]; decide) (by decide) ?_
    refine r_aload_n dX6_told_130 0 rfl ?_
    refine gf_X6_3 (v := .ref hq) 0 rfl rfl qw_178 dX6_told_131 ?_
    refine gfN_X4_2 (v := .int (pv 1)) 7 rfl rfl qw_149 dX6_told_134 ?_
    exact r_iret (hE _ (Option.some.inj hg)) dX6_told_137
  replace hg := (if_neg h1_12).symm.trans hg
  by_cases h1_2 : n1 = 2
  · refine r_tableIn (tgt := 138) (off := 137) dX6_told_1 (by rw [h1_2]; decide) (by rw [h1_2]; decide) (by rw [h1_2]; decide) (by decide) ?_
    refine r_iload_n dX6_told_138 1 rfl ?_
    refine r_iconst (v := 2) dX6_told_139 kic_2 ?_
    refine r_bipush (v := 7) dX6_told_140 kbp_7 ?_
    obtain ⟨o142, e142, hg⟩ := ob hg
    refine r_callS (As := [.int n1, .int 2, .int 7]) (rest := []) (ws' := wT Z t (a 0) tr0 hj hq hi ++ (wP Z a w er fl me p pr ++ (wQ1 Z hq hs pv))) (fun l => c_X6_isWithin Z l   n1 2 7 o142 e142) qw_195 ms_X6_isWithin xPk.none ⟨Nat.le_of_ble_eq_true rfl, Nat.le_of_ble_eq_true rfl⟩ ⟨rfl, rfl⟩ ⟨Nat.zero_le _, Nat.zero_le _⟩ rfl (Nat.le_of_ble_eq_true rfl) rfl dX6_told_142 ?_
    refine r_if_eq (tgt := 156) dX6_told_145 (by decide) (fun h145 => ?_) (fun h145 => ?_)
    · replace hg := (if_pos h145).symm.trans hg
      refine r_iconst (v := (-1)) dX6_told_156 kic_m1 ?_
      exact r_iret (hE _ (Option.some.inj hg)) dX6_told_157
    · replace hg := (if_neg h145).symm.trans hg
      refine r_aload_n dX6_told_148 0 rfl ?_
      refine r_iload_n dX6_told_149 1 rfl ?_
      obtain ⟨o150, e150, hg⟩ := ob hg
      refine r_callV (As := [.int n1]) (rest := []) (ws' := wT Z t (a 0) tr0 hj hq hi ++ (wP Z a w er fl me p pr ++ (wQ1 Z hq hs pv))) 0 rfl rfl rfl (fun l => c_X6_knownNumber Z l t tr0 hj hq hi a w er fl me p pr n1 o150 e150) qw_198 mv_X6_knownNumber (xPk.idx [0, 1, 2, 3, 4, 5, 6] rfl rfl rfl rfl rfl) ⟨Nat.le_of_ble_eq_true rfl, Nat.le_of_ble_eq_true rfl⟩ ⟨rfl, rfl⟩ ⟨Nat.zero_le _, Nat.zero_le _⟩ rfl (Nat.le_of_ble_eq_true rfl) rfl dX6_told_150 ?_
      refine r_goto (tgt := 157) dX6_told_153 (by decide) ?_
      exact r_iret (hE _ (Option.some.inj hg)) dX6_told_157
  by_cases h1_3 : n1 = 3
  · refine r_tableIn (tgt := 138) (off := 137) dX6_told_1 (by rw [h1_3]; decide) (by rw [h1_3]; decide) (by rw [h1_3]; decide) (by decide) ?_
    refine r_iload_n dX6_told_138 1 rfl ?_
    refine r_iconst (v := 2) dX6_told_139 kic_2 ?_
    refine r_bipush (v := 7) dX6_told_140 kbp_7 ?_
    obtain ⟨o142, e142, hg⟩ := ob hg
    refine r_callS (As := [.int n1, .int 2, .int 7]) (rest := []) (ws' := wT Z t (a 0) tr0 hj hq hi ++ (wP Z a w er fl me p pr ++ (wQ1 Z hq hs pv))) (fun l => c_X6_isWithin Z l   n1 2 7 o142 e142) qw_195 ms_X6_isWithin xPk.none ⟨Nat.le_of_ble_eq_true rfl, Nat.le_of_ble_eq_true rfl⟩ ⟨rfl, rfl⟩ ⟨Nat.zero_le _, Nat.zero_le _⟩ rfl (Nat.le_of_ble_eq_true rfl) rfl dX6_told_142 ?_
    refine r_if_eq (tgt := 156) dX6_told_145 (by decide) (fun h145 => ?_) (fun h145 => ?_)
    · replace hg := (if_pos h145).symm.trans hg
      refine r_iconst (v := (-1)) dX6_told_156 kic_m1 ?_
      exact r_iret (hE _ (Option.some.inj hg)) dX6_told_157
    · replace hg := (if_neg h145).symm.trans hg
      refine r_aload_n dX6_told_148 0 rfl ?_
      refine r_iload_n dX6_told_149 1 rfl ?_
      obtain ⟨o150, e150, hg⟩ := ob hg
      refine r_callV (As := [.int n1]) (rest := []) (ws' := wT Z t (a 0) tr0 hj hq hi ++ (wP Z a w er fl me p pr ++ (wQ1 Z hq hs pv))) 0 rfl rfl rfl (fun l => c_X6_knownNumber Z l t tr0 hj hq hi a w er fl me p pr n1 o150 e150) qw_198 mv_X6_knownNumber (xPk.idx [0, 1, 2, 3, 4, 5, 6] rfl rfl rfl rfl rfl) ⟨Nat.le_of_ble_eq_true rfl, Nat.le_of_ble_eq_true rfl⟩ ⟨rfl, rfl⟩ ⟨Nat.zero_le _, Nat.zero_le _⟩ rfl (Nat.le_of_ble_eq_true rfl) rfl dX6_told_150 ?_
      refine r_goto (tgt := 157) dX6_told_153 (by decide) ?_
      exact r_iret (hE _ (Option.some.inj hg)) dX6_told_157
  by_cases h1_4 : n1 = 4
  · refine r_tableIn (tgt := 138) (off := 137) dX6_told_1 (by rw [h1_4]; decide) (by rw [h1_4]; decide) (by rw [h1_4]; decide) (by decide) ?_
    refine r_iload_n dX6_told_138 1 rfl ?_
    refine r_iconst (v := 2) dX6_told_139 kic_2 ?_
    refine r_bipush (v := 7) dX6_told_140 kbp_7 ?_
    obtain ⟨o142, e142, hg⟩ := ob hg
    refine r_callS (As := [.int n1, .int 2, .int 7]) (rest := []) (ws' := wT Z t (a 0) tr0 hj hq hi ++ (wP Z a w er fl me p pr ++ (wQ1 Z hq hs pv))) (fun l => c_X6_isWithin Z l   n1 2 7 o142 e142) qw_195 ms_X6_isWithin xPk.none ⟨Nat.le_of_ble_eq_true rfl, Nat.le_of_ble_eq_true rfl⟩ ⟨rfl, rfl⟩ ⟨Nat.zero_le _, Nat.zero_le _⟩ rfl (Nat.le_of_ble_eq_true rfl) rfl dX6_told_142 ?_
    refine r_if_eq (tgt := 156) dX6_told_145 (by decide) (fun h145 => ?_) (fun h145 => ?_)
    · replace hg := (if_pos h145).symm.trans hg
      refine r_iconst (v := (-1)) dX6_told_156 kic_m1 ?_
      exact r_iret (hE _ (Option.some.inj hg)) dX6_told_157
    · replace hg := (if_neg h145).symm.trans hg
      refine r_aload_n dX6_told_148 0 rfl ?_
      refine r_iload_n dX6_told_149 1 rfl ?_
      obtain ⟨o150, e150, hg⟩ := ob hg
      refine r_callV (As := [.int n1]) (rest := []) (ws' := wT Z t (a 0) tr0 hj hq hi ++ (wP Z a w er fl me p pr ++ (wQ1 Z hq hs pv))) 0 rfl rfl rfl (fun l => c_X6_knownNumber Z l t tr0 hj hq hi a w er fl me p pr n1 o150 e150) qw_198 mv_X6_knownNumber (xPk.idx [0, 1, 2, 3, 4, 5, 6] rfl rfl rfl rfl rfl) ⟨Nat.le_of_ble_eq_true rfl, Nat.le_of_ble_eq_true rfl⟩ ⟨rfl, rfl⟩ ⟨Nat.zero_le _, Nat.zero_le _⟩ rfl (Nat.le_of_ble_eq_true rfl) rfl dX6_told_150 ?_
      refine r_goto (tgt := 157) dX6_told_153 (by decide) ?_
      exact r_iret (hE _ (Option.some.inj hg)) dX6_told_157
  by_cases h1_5 : n1 = 5
  · refine r_tableIn (tgt := 138) (off := 137) dX6_told_1 (by rw [h1_5]; decide) (by rw [h1_5]; decide) (by rw [h1_5]; decide) (by decide) ?_
    refine r_iload_n dX6_told_138 1 rfl ?_
    refine r_iconst (v := 2) dX6_told_139 kic_2 ?_
    refine r_bipush (v := 7) dX6_told_140 kbp_7 ?_
    obtain ⟨o142, e142, hg⟩ := ob hg
    refine r_callS (As := [.int n1, .int 2, .int 7]) (rest := []) (ws' := wT Z t (a 0) tr0 hj hq hi ++ (wP Z a w er fl me p pr ++ (wQ1 Z hq hs pv))) (fun l => c_X6_isWithin Z l   n1 2 7 o142 e142) qw_195 ms_X6_isWithin xPk.none ⟨Nat.le_of_ble_eq_true rfl, Nat.le_of_ble_eq_true rfl⟩ ⟨rfl, rfl⟩ ⟨Nat.zero_le _, Nat.zero_le _⟩ rfl (Nat.le_of_ble_eq_true rfl) rfl dX6_told_142 ?_
    refine r_if_eq (tgt := 156) dX6_told_145 (by decide) (fun h145 => ?_) (fun h145 => ?_)
    · replace hg := (if_pos h145).symm.trans hg
      refine r_iconst (v := (-1)) dX6_told_156 kic_m1 ?_
      exact r_iret (hE _ (Option.some.inj hg)) dX6_told_157
    · replace hg := (if_neg h145).symm.trans hg
      refine r_aload_n dX6_told_148 0 rfl ?_
      refine r_iload_n dX6_told_149 1 rfl ?_
      obtain ⟨o150, e150, hg⟩ := ob hg
      refine r_callV (As := [.int n1]) (rest := []) (ws' := wT Z t (a 0) tr0 hj hq hi ++ (wP Z a w er fl me p pr ++ (wQ1 Z hq hs pv))) 0 rfl rfl rfl (fun l => c_X6_knownNumber Z l t tr0 hj hq hi a w er fl me p pr n1 o150 e150) qw_198 mv_X6_knownNumber (xPk.idx [0, 1, 2, 3, 4, 5, 6] rfl rfl rfl rfl rfl) ⟨Nat.le_of_ble_eq_true rfl, Nat.le_of_ble_eq_true rfl⟩ ⟨rfl, rfl⟩ ⟨Nat.zero_le _, Nat.zero_le _⟩ rfl (Nat.le_of_ble_eq_true rfl) rfl dX6_told_150 ?_
      refine r_goto (tgt := 157) dX6_told_153 (by decide) ?_
      exact r_iret (hE _ (Option.some.inj hg)) dX6_told_157
  by_cases h1_6 : n1 = 6
  · refine r_tableIn (tgt := 138) (off := 137) dX6_told_1 (by rw [h1_6]; decide) (by rw [h1_6]; decide) (by rw [h1_6]; decide) (by decide) ?_
    refine r_iload_n dX6_told_138 1 rfl ?_
    refine r_iconst (v := 2) dX6_told_139 kic_2 ?_
    refine r_bipush (v := 7) dX6_told_140 kbp_7 ?_
    obtain ⟨o142, e142, hg⟩ := ob hg
    refine r_callS (As := [.int n1, .int 2, .int 7]) (rest := []) (ws' := wT Z t (a 0) tr0 hj hq hi ++ (wP Z a w er fl me p pr ++ (wQ1 Z hq hs pv))) (fun l => c_X6_isWithin Z l   n1 2 7 o142 e142) qw_195 ms_X6_isWithin xPk.none ⟨Nat.le_of_ble_eq_true rfl, Nat.le_of_ble_eq_true rfl⟩ ⟨rfl, rfl⟩ ⟨Nat.zero_le _, Nat.zero_le _⟩ rfl (Nat.le_of_ble_eq_true rfl) rfl dX6_told_142 ?_
    refine r_if_eq (tgt := 156) dX6_told_145 (by decide) (fun h145 => ?_) (fun h145 => ?_)
    · replace hg := (if_pos h145).symm.trans hg
      refine r_iconst (v := (-1)) dX6_told_156 kic_m1 ?_
      exact r_iret (hE _ (Option.some.inj hg)) dX6_told_157
    · replace hg := (if_neg h145).symm.trans hg
      refine r_aload_n dX6_told_148 0 rfl ?_
      refine r_iload_n dX6_told_149 1 rfl ?_
      obtain ⟨o150, e150, hg⟩ := ob hg
      refine r_callV (As := [.int n1]) (rest := []) (ws' := wT Z t (a 0) tr0 hj hq hi ++ (wP Z a w er fl me p pr ++ (wQ1 Z hq hs pv))) 0 rfl rfl rfl (fun l => c_X6_knownNumber Z l t tr0 hj hq hi a w er fl me p pr n1 o150 e150) qw_198 mv_X6_knownNumber (xPk.idx [0, 1, 2, 3, 4, 5, 6] rfl rfl rfl rfl rfl) ⟨Nat.le_of_ble_eq_true rfl, Nat.le_of_ble_eq_true rfl⟩ ⟨rfl, rfl⟩ ⟨Nat.zero_le _, Nat.zero_le _⟩ rfl (Nat.le_of_ble_eq_true rfl) rfl dX6_told_150 ?_
      refine r_goto (tgt := 157) dX6_told_153 (by decide) ?_
      exact r_iret (hE _ (Option.some.inj hg)) dX6_told_157
  by_cases h1_7 : n1 = 7
  · refine r_tableIn (tgt := 138) (off := 137) dX6_told_1 (by rw [h1_7]; decide) (by rw [h1_7]; decide) (by rw [h1_7]; decide) (by decide) ?_
    refine r_iload_n dX6_told_138 1 rfl ?_
    refine r_iconst (v := 2) dX6_told_139 kic_2 ?_
    refine r_bipush (v := 7) dX6_told_140 kbp_7 ?_
    obtain ⟨o142, e142, hg⟩ := ob hg
    refine r_callS (As := [.int n1, .int 2, .int 7]) (rest := []) (ws' := wT Z t (a 0) tr0 hj hq hi ++ (wP Z a w er fl me p pr ++ (wQ1 Z hq hs pv))) (fun l => c_X6_isWithin Z l   n1 2 7 o142 e142) qw_195 ms_X6_isWithin xPk.none ⟨Nat.le_of_ble_eq_true rfl, Nat.le_of_ble_eq_true rfl⟩ ⟨rfl, rfl⟩ ⟨Nat.zero_le _, Nat.zero_le _⟩ rfl (Nat.le_of_ble_eq_true rfl) rfl dX6_told_142 ?_
    refine r_if_eq (tgt := 156) dX6_told_145 (by decide) (fun h145 => ?_) (fun h145 => ?_)
    · replace hg := (if_pos h145).symm.trans hg
      refine r_iconst (v := (-1)) dX6_told_156 kic_m1 ?_
      exact r_iret (hE _ (Option.some.inj hg)) dX6_told_157
    · replace hg := (if_neg h145).symm.trans hg
      refine r_aload_n dX6_told_148 0 rfl ?_
      refine r_iload_n dX6_told_149 1 rfl ?_
      obtain ⟨o150, e150, hg⟩ := ob hg
      refine r_callV (As := [.int n1]) (rest := []) (ws' := wT Z t (a 0) tr0 hj hq hi ++ (wP Z a w er fl me p pr ++ (wQ1 Z hq hs pv))) 0 rfl rfl rfl (fun l => c_X6_knownNumber Z l t tr0 hj hq hi a w er fl me p pr n1 o150 e150) qw_198 mv_X6_knownNumber (xPk.idx [0, 1, 2, 3, 4, 5, 6] rfl rfl rfl rfl rfl) ⟨Nat.le_of_ble_eq_true rfl, Nat.le_of_ble_eq_true rfl⟩ ⟨rfl, rfl⟩ ⟨Nat.zero_le _, Nat.zero_le _⟩ rfl (Nat.le_of_ble_eq_true rfl) rfl dX6_told_150 ?_
      refine r_goto (tgt := 157) dX6_told_153 (by decide) ?_
      exact r_iret (hE _ (Option.some.inj hg)) dX6_told_157
  have n1_0 : ¬ n1.toInt = 0 := x_nei (by decide) h1_0
  have n1_1 : ¬ n1.toInt = 1 := x_nei (by decide) h1_1
  have n1_8 : ¬ n1.toInt = 8 := x_nei (by decide) h1_8
  have n1_9 : ¬ n1.toInt = 9 := x_nei (by decide) h1_9
  have n1_10 : ¬ n1.toInt = 10 := x_nei (by decide) h1_10
  have n1_11 : ¬ n1.toInt = 11 := x_nei (by decide) h1_11
  have n1_12 : ¬ n1.toInt = 12 := x_nei (by decide) h1_12
  have n1_2 : ¬ n1.toInt = 2 := x_nei (by decide) h1_2
  have n1_3 : ¬ n1.toInt = 3 := x_nei (by decide) h1_3
  have n1_4 : ¬ n1.toInt = 4 := x_nei (by decide) h1_4
  have n1_5 : ¬ n1.toInt = 5 := x_nei (by decide) h1_5
  have n1_6 : ¬ n1.toInt = 6 := x_nei (by decide) h1_6
  have n1_7 : ¬ n1.toInt = 7 := x_nei (by decide) h1_7
  refine r_tableOut (tgt := 138) dX6_told_1 (by omega) (by decide) ?_
  refine r_iload_n dX6_told_138 1 rfl ?_
  refine r_iconst (v := 2) dX6_told_139 kic_2 ?_
  refine r_bipush (v := 7) dX6_told_140 kbp_7 ?_
  obtain ⟨o142, e142, hg⟩ := ob hg
  refine r_callS (As := [.int n1, .int 2, .int 7]) (rest := []) (ws' := wT Z t (a 0) tr0 hj hq hi ++ (wP Z a w er fl me p pr ++ (wQ1 Z hq hs pv))) (fun l => c_X6_isWithin Z l   n1 2 7 o142 e142) qw_195 ms_X6_isWithin xPk.none ⟨Nat.le_of_ble_eq_true rfl, Nat.le_of_ble_eq_true rfl⟩ ⟨rfl, rfl⟩ ⟨Nat.zero_le _, Nat.zero_le _⟩ rfl (Nat.le_of_ble_eq_true rfl) rfl dX6_told_142 ?_
  refine r_if_eq (tgt := 156) dX6_told_145 (by decide) (fun h145 => ?_) (fun h145 => ?_)
  · replace hg := (if_pos h145).symm.trans hg
    refine r_iconst (v := (-1)) dX6_told_156 kic_m1 ?_
    exact r_iret (hE _ (Option.some.inj hg)) dX6_told_157
  · replace hg := (if_neg h145).symm.trans hg
    refine r_aload_n dX6_told_148 0 rfl ?_
    refine r_iload_n dX6_told_149 1 rfl ?_
    obtain ⟨o150, e150, hg⟩ := ob hg
    refine r_callV (As := [.int n1]) (rest := []) (ws' := wT Z t (a 0) tr0 hj hq hi ++ (wP Z a w er fl me p pr ++ (wQ1 Z hq hs pv))) 0 rfl rfl rfl (fun l => c_X6_knownNumber Z l t tr0 hj hq hi a w er fl me p pr n1 o150 e150) qw_198 mv_X6_knownNumber (xPk.idx [0, 1, 2, 3, 4, 5, 6] rfl rfl rfl rfl rfl) ⟨Nat.le_of_ble_eq_true rfl, Nat.le_of_ble_eq_true rfl⟩ ⟨rfl, rfl⟩ ⟨Nat.zero_le _, Nat.zero_le _⟩ rfl (Nat.le_of_ble_eq_true rfl) rfl dX6_told_150 ?_
    refine r_goto (tgt := 157) dX6_told_153 (by decide) ?_
    exact r_iret (hE _ (Option.some.inj hg)) dX6_told_157

-- TicketJournal.trySale(II)V
abbrev rm_X6_trySale : Room := { frames := 5, cells := 0, slots := 0, locals := 118 }
def g_X6_trySale (w : Nat → Int32) (er : Nat → Int32) (fl : Nat → Int32) (me : Nat → Int32) (p : Nat → Int32) (pr : Nat → Int32) (wt : Nat → Int32) (ert : Nat → Int32) (flt : Nat → Int32) (met : Nat → Int32) (pt : Nat → Int32) (prt : Nat → Int32) (n1 : Int32) (n2 : Int32) : Option ((Nat → Int32) × (Nat → Int32) × (Nat → Int32) × (Nat → Int32) × (Nat → Int32) × (Nat → Int32)) :=
  (g_X5_copyFrom wt ert flt met pt prt w er fl me p pr).bind fun o8 => (g_X5_issueTicket o8.1 o8.2.1 (upd o8.2.2.1 1 n2) o8.2.2.2.1 o8.2.2.2.2.1 o8.2.2.2.2.2 n1).bind fun o27 => some (o27.2.1, o27.2.2.1, o27.2.2.2.1, o27.2.2.2.2.1, o8.2.2.2.2.1, o27.2.2.2.2.2)
set_option maxHeartbeats 4000000 in
set_option maxRecDepth 100000 in
theorem c_X6_trySale (Z : GZ) (l : Launch) (t : Nat) (hj : Nat) (hq : Nat) (hi : Nat) (a : Nat → Nat) (b : Nat → Nat) (w : Nat → Int32) (er : Nat → Int32) (fl : Nat → Int32) (me : Nat → Int32) (p : Nat → Int32) (pr : Nat → Int32) (wt : Nat → Int32) (ert : Nat → Int32) (flt : Nat → Int32) (met : Nat → Int32) (pt : Nat → Int32) (prt : Nat → Int32) (n1 : Int32) (n2 : Int32) (o : ((Nat → Int32) × (Nat → Int32) × (Nat → Int32) × (Nat → Int32) × (Nat → Int32) × (Nat → Int32))) (hg : g_X6_trySale w er fl me p pr wt ert flt met pt prt n1 n2 = some o) : Con Z l yX6_trySale cX6_trySale 3 none rm_X6_trySale [.ref t, .int n1, .int n2] (wT Z t (a 0) (b 0) hj hq hi ++ (wP Z a w er fl me p pr ++ (wP Z b wt ert flt met pt prt))) none (wT Z t (a 0) (b 0) hj hq hi ++ (wP Z a w er fl me p pr ++ (wP Z b o.1 o.2.1 o.2.2.1 o.2.2.2.1 o.2.2.2.2.1 o.2.2.2.2.2))) := by
  refine Con.of (by decide) (Nat.le_of_ble_eq_true rfl) ?_
  intro X hE0
  have hE : ∀ z, z = o → endsX X Z none none (wT Z t (a 0) (b 0) hj hq hi ++ (wP Z a w er fl me p pr ++ (wP Z b z.1 z.2.1 z.2.2.1 z.2.2.2.1 z.2.2.2.2.1 z.2.2.2.2.2))) := by
    rintro _ rfl; exact hE0
  unfold g_X6_trySale at hg
  show AtK X Z rm_X6_trySale cX6_trySale RX6 3 0 0 (wT Z t (a 0) (b 0) hj hq hi ++ (wP Z a w er fl me p pr ++ (wP Z b wt ert flt met pt prt))) 0 [(0, .ref t), (1, .int n1), (2, .int n2)] []
  refine r_aload_n dX6_trySale_0 0 rfl ?_
  refine gf_X6_1 (v := .ref (b 0)) 0 rfl rfl qw_176 dX6_trySale_1 ?_
  refine r_aload_n dX6_trySale_4 0 rfl ?_
  refine gf_X6_0 (v := .ref (a 0)) 0 rfl rfl qw_175 dX6_trySale_5 ?_
  obtain ⟨o8, e8, hg⟩ := ob hg
  refine r_callV (As := [.ref (a 0)]) (rest := []) (ws' := wT Z t (a 0) (b 0) hj hq hi ++ (wP Z a w er fl me p pr ++ (wP Z b o8.1 o8.2.1 o8.2.2.1 o8.2.2.2.1 o8.2.2.2.2.1 o8.2.2.2.2.2))) 0 rfl rfl rfl (fun l => c_X5_copyFrom Z l b a wt ert flt met pt prt w er fl me p pr  o8 e8) qw_458 mv_X5_copyFrom (xPk.idx [7, 8, 9, 10, 11, 12, 1, 2, 3, 4, 5, 6] rfl rfl rfl rfl rfl) ⟨Nat.le_of_ble_eq_true rfl, Nat.le_of_ble_eq_true rfl⟩ ⟨rfl, rfl⟩ ⟨Nat.zero_le _, Nat.zero_le _⟩ rfl (Nat.le_of_ble_eq_true rfl) rfl dX6_trySale_8 ?_
  refine r_aload_n dX6_trySale_11 0 rfl ?_
  refine gf_X6_1 (v := .ref (b 0)) 0 rfl rfl qw_176 dX6_trySale_12 ?_
  refine gfN_X5_0 (v := .ref (b 1)) 7 rfl rfl qw_97 dX6_trySale_15 ?_
  refine r_iload_n dX6_trySale_18 2 rfl ?_
  refine pfN_X0_3 8 rfl (Nat.le_of_ble_eq_true rfl) qw_48 dX6_trySale_19 (ws' := wT Z t (a 0) (b 0) hj hq hi ++ (wP Z a w er fl me p pr ++ (wP Z b o8.1 o8.2.1 (upd o8.2.2.1 1 n2) o8.2.2.2.1 o8.2.2.2.2.1 o8.2.2.2.2.2))) rfl ?_
  refine r_aload_n dX6_trySale_22 0 rfl ?_
  refine gf_X6_1 (v := .ref (b 0)) 0 rfl rfl qw_176 dX6_trySale_23 ?_
  refine r_iload_n dX6_trySale_26 1 rfl ?_
  obtain ⟨o27, e27, hg⟩ := ob hg
  refine r_callV (As := [.int n1]) (rest := []) (ws' := wT Z t (a 0) (b 0) hj hq hi ++ (wP Z a w er fl me p pr ++ (wP Z b o27.2.1 o27.2.2.1 o27.2.2.2.1 o27.2.2.2.2.1 o8.2.2.2.2.1 o27.2.2.2.2.2))) 0 rfl rfl rfl (fun l => c_X5_issueTicket Z l b o8.1 o8.2.1 (upd o8.2.2.1 1 n2) o8.2.2.2.1 o8.2.2.2.2.1 o8.2.2.2.2.2 n1 o27 e27) qw_256 mv_X5_issueTicket (xPk.idx [7, 8, 9, 10, 11, 12] rfl rfl rfl rfl rfl) ⟨Nat.le_of_ble_eq_true rfl, Nat.le_of_ble_eq_true rfl⟩ ⟨rfl, rfl⟩ ⟨Nat.zero_le _, Nat.zero_le _⟩ rfl (Nat.le_of_ble_eq_true rfl) rfl dX6_trySale_27 ?_
  refine r_pop dX6_trySale_30 rfl ?_
  exact r_vret (hE _ (Option.some.inj hg)) dX6_trySale_31

-- TicketJournal.operations(I)I
abbrev rm_X6_operations : Room := { frames := 6, cells := 0, slots := 0, locals := 140 }
def g_X6_operations (w : Nat → Int32) (er : Nat → Int32) (fl : Nat → Int32) (me : Nat → Int32) (p : Nat → Int32) (pr : Nat → Int32) (wt : Nat → Int32) (ert : Nat → Int32) (flt : Nat → Int32) (met : Nat → Int32) (pt : Nat → Int32) (prt : Nat → Int32) (n1 : Int32) : Option (Int32 × (Nat → Int32) × (Nat → Int32) × (Nat → Int32) × (Nat → Int32) × (Nat → Int32) × (Nat → Int32)) :=
  (g_X5_refusalOf me p pr n1).bind fun o5 => (if o5 = 0 then (g_X6_trySale w er fl me p pr wt ert flt met pt prt n1 (-9)).bind fun o19 => some (((o19.2.2.1 0) - (fl 0)), o19.1, o19.2.1, o19.2.2.1, o19.2.2.2.1, o19.2.2.2.2.1, o19.2.2.2.2.2) else some (o5, wt, ert, flt, met, pt, prt))
set_option maxHeartbeats 4000000 in
set_option maxRecDepth 100000 in
theorem c_X6_operations (Z : GZ) (l : Launch) (t : Nat) (hj : Nat) (hq : Nat) (hi : Nat) (a : Nat → Nat) (b : Nat → Nat) (w : Nat → Int32) (er : Nat → Int32) (fl : Nat → Int32) (me : Nat → Int32) (p : Nat → Int32) (pr : Nat → Int32) (wt : Nat → Int32) (ert : Nat → Int32) (flt : Nat → Int32) (met : Nat → Int32) (pt : Nat → Int32) (prt : Nat → Int32) (n1 : Int32) (o : (Int32 × (Nat → Int32) × (Nat → Int32) × (Nat → Int32) × (Nat → Int32) × (Nat → Int32) × (Nat → Int32))) (hg : g_X6_operations w er fl me p pr wt ert flt met pt prt n1 = some o) : Con Z l yX6_operations cX6_operations 3 (some .int) rm_X6_operations [.ref t, .int n1] (wT Z t (a 0) (b 0) hj hq hi ++ (wP Z a w er fl me p pr ++ (wP Z b wt ert flt met pt prt))) (some (.int o.1)) (wT Z t (a 0) (b 0) hj hq hi ++ (wP Z a w er fl me p pr ++ (wP Z b o.2.1 o.2.2.1 o.2.2.2.1 o.2.2.2.2.1 o.2.2.2.2.2.1 o.2.2.2.2.2.2))) := by
  refine Con.of (by decide) (Nat.le_of_ble_eq_true rfl) ?_
  intro X hE0
  have hE : ∀ z, z = o → endsX X Z (some .int) (some (.int z.1)) (wT Z t (a 0) (b 0) hj hq hi ++ (wP Z a w er fl me p pr ++ (wP Z b z.2.1 z.2.2.1 z.2.2.2.1 z.2.2.2.2.1 z.2.2.2.2.2.1 z.2.2.2.2.2.2))) := by
    rintro _ rfl; exact hE0
  unfold g_X6_operations at hg
  show AtK X Z rm_X6_operations cX6_operations RX6 3 0 0 (wT Z t (a 0) (b 0) hj hq hi ++ (wP Z a w er fl me p pr ++ (wP Z b wt ert flt met pt prt))) 0 [(0, .ref t), (1, .int n1)] []
  refine r_aload_n dX6_operations_0 0 rfl ?_
  refine gf_X6_0 (v := .ref (a 0)) 0 rfl rfl qw_175 dX6_operations_1 ?_
  refine r_iload_n dX6_operations_4 1 rfl ?_
  obtain ⟨o5, e5, hg⟩ := ob hg
  refine r_callV (As := [.int n1]) (rest := []) (ws' := wT Z t (a 0) (b 0) hj hq hi ++ (wP Z a w er fl me p pr ++ (wP Z b wt ert flt met pt prt))) 0 rfl rfl rfl (fun l => c_X5_refusalOf Z l a w er fl me p pr n1 o5 e5) qw_217 mv_X5_refusalOf (xPk.idx [1, 2, 3, 4, 5, 6] rfl rfl rfl rfl rfl) ⟨Nat.le_of_ble_eq_true rfl, Nat.le_of_ble_eq_true rfl⟩ ⟨rfl, rfl⟩ ⟨Nat.zero_le _, Nat.zero_le _⟩ rfl (Nat.le_of_ble_eq_true rfl) rfl dX6_operations_5 ?_
  refine r_istore_n (lv' := [(2, .int o5), (0, .ref t), (1, .int n1)]) dX6_operations_8 (by decide) rfl ?_
  refine r_iload_n dX6_operations_9 0 rfl ?_
  refine r_if_eq (tgt := 15) dX6_operations_10 (by decide) (fun h10 => ?_) (fun h10 => ?_)
  · replace hg := (if_pos h10).symm.trans hg
    refine r_aload_n dX6_operations_15 1 rfl ?_
    refine r_iload_n dX6_operations_16 2 rfl ?_
    refine r_bipush (v := (-9)) dX6_operations_17 kbp_m9 ?_
    obtain ⟨o19, e19, hg⟩ := ob hg
    refine r_callV (As := [.int n1, .int (-9)]) (rest := []) (ws' := wT Z t (a 0) (b 0) hj hq hi ++ (wP Z a w er fl me p pr ++ (wP Z b o19.1 o19.2.1 o19.2.2.1 o19.2.2.2.1 o19.2.2.2.2.1 o19.2.2.2.2.2))) 0 rfl rfl rfl (fun l => c_X6_trySale Z l t hj hq hi a b w er fl me p pr wt ert flt met pt prt n1 (-9) o19 e19) qw_537 mv_X6_trySale (xPk.all rfl) ⟨Nat.le_of_ble_eq_true rfl, Nat.le_of_ble_eq_true rfl⟩ ⟨rfl, rfl⟩ ⟨Nat.zero_le _, Nat.zero_le _⟩ rfl (Nat.le_of_ble_eq_true rfl) rfl dX6_operations_19 ?_
    refine r_aload_n dX6_operations_22 1 rfl ?_
    refine gf_X6_1 (v := .ref (b 0)) 0 rfl rfl qw_176 dX6_operations_23 ?_
    refine gfN_X5_0 (v := .ref (b 1)) 7 rfl rfl qw_97 dX6_operations_26 ?_
    refine gfN_X0_2 (v := .int (o19.2.2.1 0)) 8 rfl rfl qw_46 dX6_operations_29 ?_
    refine r_aload_n dX6_operations_32 1 rfl ?_
    refine gf_X6_0 (v := .ref (a 0)) 0 rfl rfl qw_175 dX6_operations_33 ?_
    refine gfN_X5_0 (v := .ref (a 1)) 1 rfl rfl qw_97 dX6_operations_36 ?_
    refine gfN_X0_2 (v := .int (fl 0)) 2 rfl rfl qw_46 dX6_operations_39 ?_
    refine r_isub dX6_operations_42 ?_
    exact r_iret (hE _ (Option.some.inj hg)) dX6_operations_43
  · replace hg := (if_neg h10).symm.trans hg
    refine r_iload_n dX6_operations_13 0 rfl ?_
    exact r_iret (hE _ (Option.some.inj hg)) dX6_operations_14

-- TicketJournal.after(III)I
abbrev rm_X6_after : Room := { frames := 6, cells := 0, slots := 0, locals := 140 }
def g_X6_after_19 (w : Nat → Int32) (er : Nat → Int32) (fl : Nat → Int32) (me : Nat → Int32) (p : Nat → Int32) (pr : Nat → Int32)  (wt : Nat → Int32) (ert : Nat → Int32) (flt : Nat → Int32) (met : Nat → Int32) (pt : Nat → Int32) (prt : Nat → Int32) : Option (Int32 × (Nat → Int32) × (Nat → Int32) × (Nat → Int32) × (Nat → Int32) × (Nat → Int32) × (Nat → Int32)) :=
  some ((-1), wt, ert, flt, met, pt, prt)
def g_X6_after_62 (w : Nat → Int32) (er : Nat → Int32) (fl : Nat → Int32) (me : Nat → Int32) (p : Nat → Int32) (pr : Nat → Int32)  (x3 : Int32) (wt : Nat → Int32) (ert : Nat → Int32) (flt : Nat → Int32) (met : Nat → Int32) (pt : Nat → Int32) (prt : Nat → Int32) : Option (Int32 × (Nat → Int32) × (Nat → Int32) × (Nat → Int32) × (Nat → Int32) × (Nat → Int32) × (Nat → Int32)) :=
  (if x3 = 0 then (g_X0_tally wt 1).bind fun o100 => some (o100, wt, ert, flt, met, pt, prt) else (if x3 = 1 then (g_X0_tally wt 2).bind fun o112 => some (o112, wt, ert, flt, met, pt, prt) else (if x3 = 2 then some ((met 2), wt, ert, flt, met, pt, prt) else (if x3 = 3 then some ((met 3), wt, ert, flt, met, pt, prt) else some ((met 0), wt, ert, flt, met, pt, prt)))))
def g_X6_after (w : Nat → Int32) (er : Nat → Int32) (fl : Nat → Int32) (me : Nat → Int32) (p : Nat → Int32) (pr : Nat → Int32) (wt : Nat → Int32) (ert : Nat → Int32) (flt : Nat → Int32) (met : Nat → Int32) (pt : Nat → Int32) (prt : Nat → Int32) (n1 : Int32) (n2 : Int32) (n3 : Int32) : Option (Int32 × (Nat → Int32) × (Nat → Int32) × (Nat → Int32) × (Nat → Int32) × (Nat → Int32) × (Nat → Int32)) :=
  (g_X6_isWithin n2 0 30).bind fun o4 => (if o4 = 0 then g_X6_after_19 w er fl me p pr wt ert flt met pt prt else (g_X6_isWithin n3 0 4).bind fun o13 => (if o13 = 0 then g_X6_after_19 w er fl me p pr wt ert flt met pt prt else (g_X5_refusalOf me p pr n1).bind fun o26 => (if o26 = 0 then (g_X6_trySale w er fl me p pr wt ert flt met pt prt n1 n2).bind fun o42 => (if (o42.2.2.2.2.2 0) = 0 then (g_X5_wake o42.1 o42.2.2.2.1 o42.2.2.2.2.2).bind fun o59 => g_X6_after_62 w er fl me p pr n3 o42.1 o42.2.1 o42.2.2.1 o59.1 o42.2.2.2.2.1 o59.2 else g_X6_after_62 w er fl me p pr n3 o42.1 o42.2.1 o42.2.2.1 o42.2.2.2.1 o42.2.2.2.2.1 o42.2.2.2.2.2) else some (o26, wt, ert, flt, met, pt, prt))))
set_option maxHeartbeats 4000000 in
set_option maxRecDepth 100000 in
theorem c_X6_after (Z : GZ) (l : Launch) (t : Nat) (hj : Nat) (hq : Nat) (hi : Nat) (a : Nat → Nat) (b : Nat → Nat) (w : Nat → Int32) (er : Nat → Int32) (fl : Nat → Int32) (me : Nat → Int32) (p : Nat → Int32) (pr : Nat → Int32) (wt : Nat → Int32) (ert : Nat → Int32) (flt : Nat → Int32) (met : Nat → Int32) (pt : Nat → Int32) (prt : Nat → Int32) (n1 : Int32) (n2 : Int32) (n3 : Int32) (o : (Int32 × (Nat → Int32) × (Nat → Int32) × (Nat → Int32) × (Nat → Int32) × (Nat → Int32) × (Nat → Int32))) (hg : g_X6_after w er fl me p pr wt ert flt met pt prt n1 n2 n3 = some o) : Con Z l yX6_after cX6_after 5 (some .int) rm_X6_after [.ref t, .int n1, .int n2, .int n3] (wT Z t (a 0) (b 0) hj hq hi ++ (wP Z a w er fl me p pr ++ (wP Z b wt ert flt met pt prt))) (some (.int o.1)) (wT Z t (a 0) (b 0) hj hq hi ++ (wP Z a w er fl me p pr ++ (wP Z b o.2.1 o.2.2.1 o.2.2.2.1 o.2.2.2.2.1 o.2.2.2.2.2.1 o.2.2.2.2.2.2))) := by
  refine Con.of (by decide) (Nat.le_of_ble_eq_true rfl) ?_
  intro X hE0
  have hE : ∀ z, z = o → endsX X Z (some .int) (some (.int z.1)) (wT Z t (a 0) (b 0) hj hq hi ++ (wP Z a w er fl me p pr ++ (wP Z b z.2.1 z.2.2.1 z.2.2.2.1 z.2.2.2.2.1 z.2.2.2.2.2.1 z.2.2.2.2.2.2))) := by
    rintro _ rfl; exact hE0
  have J19 : ∀ (wt : Nat → Int32) (ert : Nat → Int32) (flt : Nat → Int32) (met : Nat → Int32) (pt : Nat → Int32) (prt : Nat → Int32), g_X6_after_19 w er fl me p pr wt ert flt met pt prt = some o → AtK X Z rm_X6_after cX6_after RX6 5 0 0 (wT Z t (a 0) (b 0) hj hq hi ++ (wP Z a w er fl me p pr ++ (wP Z b wt ert flt met pt prt))) 19 [] [] := by
    intro wt ert flt met pt prt hg
    unfold g_X6_after_19 at hg
    refine r_iconst (v := (-1)) dX6_after_19 kic_m1 ?_
    exact r_iret (hE _ (Option.some.inj hg)) dX6_after_20
  have J62 : ∀ (x3 : Int32) (wt : Nat → Int32) (ert : Nat → Int32) (flt : Nat → Int32) (met : Nat → Int32) (pt : Nat → Int32) (prt : Nat → Int32), g_X6_after_62 w er fl me p pr x3 wt ert flt met pt prt = some o → AtK X Z rm_X6_after cX6_after RX6 5 0 0 (wT Z t (a 0) (b 0) hj hq hi ++ (wP Z a w er fl me p pr ++ (wP Z b wt ert flt met pt prt))) 62 [(0, .ref t), (3, .int x3)] [] := by
    intro x3 wt ert flt met pt prt hg
    unfold g_X6_after_62 at hg
    refine r_iload_n dX6_after_62 1 rfl ?_
    by_cases h63_0 : x3 = 0
    · replace hg := (if_pos h63_0).symm.trans hg
      refine r_tableIn (tgt := 92) (off := 29) dX6_after_63 (by rw [h63_0]; decide) (by rw [h63_0]; decide) (by rw [h63_0]; decide) (by decide) ?_
      refine r_aload_n dX6_after_92 0 rfl ?_
      refine gf_X6_1 (v := .ref (b 0)) 0 rfl rfl qw_176 dX6_after_93 ?_
      refine gfN_X5_0 (v := .ref (b 1)) 7 rfl rfl qw_97 dX6_after_96 ?_
      refine r_iconst (v := 1) dX6_after_99 kic_1 ?_
      obtain ⟨o100, e100, hg⟩ := ob hg
      refine r_callV (As := [.int 1]) (rest := []) (ws' := wT Z t (a 0) (b 0) hj hq hi ++ (wP Z a w er fl me p pr ++ (wP Z b wt ert flt met pt prt))) 0 rfl rfl rfl (fun l => c_X0_tally Z l (b 1) (b 2) (b 3) wt ert flt 1 o100 e100) qw_391 mv_X0_tally (xPk.idx [8, 9, 10] rfl rfl rfl rfl rfl) ⟨Nat.le_of_ble_eq_true rfl, Nat.le_of_ble_eq_true rfl⟩ ⟨rfl, rfl⟩ ⟨Nat.zero_le _, Nat.zero_le _⟩ rfl (Nat.le_of_ble_eq_true rfl) rfl dX6_after_100 ?_
      exact r_iret (hE _ (Option.some.inj hg)) dX6_after_103
    replace hg := (if_neg h63_0).symm.trans hg
    by_cases h63_1 : x3 = 1
    · replace hg := (if_pos h63_1).symm.trans hg
      refine r_tableIn (tgt := 104) (off := 41) dX6_after_63 (by rw [h63_1]; decide) (by rw [h63_1]; decide) (by rw [h63_1]; decide) (by decide) ?_
      refine r_aload_n dX6_after_104 0 rfl ?_
      refine gf_X6_1 (v := .ref (b 0)) 0 rfl rfl qw_176 dX6_after_105 ?_
      refine gfN_X5_0 (v := .ref (b 1)) 7 rfl rfl qw_97 dX6_after_108 ?_
      refine r_iconst (v := 2) dX6_after_111 kic_2 ?_
      obtain ⟨o112, e112, hg⟩ := ob hg
      refine r_callV (As := [.int 2]) (rest := []) (ws' := wT Z t (a 0) (b 0) hj hq hi ++ (wP Z a w er fl me p pr ++ (wP Z b wt ert flt met pt prt))) 0 rfl rfl rfl (fun l => c_X0_tally Z l (b 1) (b 2) (b 3) wt ert flt 2 o112 e112) qw_391 mv_X0_tally (xPk.idx [8, 9, 10] rfl rfl rfl rfl rfl) ⟨Nat.le_of_ble_eq_true rfl, Nat.le_of_ble_eq_true rfl⟩ ⟨rfl, rfl⟩ ⟨Nat.zero_le _, Nat.zero_le _⟩ rfl (Nat.le_of_ble_eq_true rfl) rfl dX6_after_112 ?_
      exact r_iret (hE _ (Option.some.inj hg)) dX6_after_115
    replace hg := (if_neg h63_1).symm.trans hg
    by_cases h63_2 : x3 = 2
    · replace hg := (if_pos h63_2).symm.trans hg
      refine r_tableIn (tgt := 116) (off := 53) dX6_after_63 (by rw [h63_2]; decide) (by rw [h63_2]; decide) (by rw [h63_2]; decide) (by decide) ?_
      refine r_aload_n dX6_after_116 0 rfl ?_
      refine gf_X6_1 (v := .ref (b 0)) 0 rfl rfl qw_176 dX6_after_117 ?_
      refine gfN_X5_1 (v := .ref (b 4)) 7 rfl rfl qw_99 dX6_after_120 ?_
      refine gfN_X3_2 (v := .int (met 2)) 11 rfl rfl qw_73 dX6_after_123 ?_
      exact r_iret (hE _ (Option.some.inj hg)) dX6_after_126
    replace hg := (if_neg h63_2).symm.trans hg
    by_cases h63_3 : x3 = 3
    · replace hg := (if_pos h63_3).symm.trans hg
      refine r_tableIn (tgt := 127) (off := 64) dX6_after_63 (by rw [h63_3]; decide) (by rw [h63_3]; decide) (by rw [h63_3]; decide) (by decide) ?_
      refine r_aload_n dX6_after_127 0 rfl ?_
      refine gf_X6_1 (v := .ref (b 0)) 0 rfl rfl qw_176 dX6_after_128 ?_
      refine gfN_X5_1 (v := .ref (b 4)) 7 rfl rfl qw_99 dX6_after_131 ?_
      refine gfN_X3_3 (v := .int (met 3)) 11 rfl rfl qw_76 dX6_after_134 ?_
      exact r_iret (hE _ (Option.some.inj hg)) dX6_after_137
    replace hg := (if_neg h63_3).symm.trans hg
    have n63_0 : ¬ x3.toInt = 0 := x_nei (by decide) h63_0
    have n63_1 : ¬ x3.toInt = 1 := x_nei (by decide) h63_1
    have n63_2 : ¬ x3.toInt = 2 := x_nei (by decide) h63_2
    have n63_3 : ¬ x3.toInt = 3 := x_nei (by decide) h63_3
    refine r_tableOut (tgt := 138) dX6_after_63 (by omega) (by decide) ?_
    refine r_aload_n dX6_after_138 0 rfl ?_
    refine gf_X6_1 (v := .ref (b 0)) 0 rfl rfl qw_176 dX6_after_139 ?_
    refine gfN_X5_1 (v := .ref (b 4)) 7 rfl rfl qw_99 dX6_after_142 ?_
    refine gfN_X3_0 (v := .int (met 0)) 11 rfl rfl qw_67 dX6_after_145 ?_
    exact r_iret (hE _ (Option.some.inj hg)) dX6_after_148
  unfold g_X6_after at hg
  show AtK X Z rm_X6_after cX6_after RX6 5 0 0 (wT Z t (a 0) (b 0) hj hq hi ++ (wP Z a w er fl me p pr ++ (wP Z b wt ert flt met pt prt))) 0 [(0, .ref t), (1, .int n1), (2, .int n2), (3, .int n3)] []
  refine r_iload_n dX6_after_0 2 rfl ?_
  refine r_iconst (v := 0) dX6_after_1 kic_0 ?_
  refine r_bipush (v := 30) dX6_after_2 kbp_30 ?_
  obtain ⟨o4, e4, hg⟩ := ob hg
  refine r_callS (As := [.int n2, .int 0, .int 30]) (rest := []) (ws' := wT Z t (a 0) (b 0) hj hq hi ++ (wP Z a w er fl me p pr ++ (wP Z b wt ert flt met pt prt))) (fun l => c_X6_isWithin Z l   n2 0 30 o4 e4) qw_195 ms_X6_isWithin xPk.none ⟨Nat.le_of_ble_eq_true rfl, Nat.le_of_ble_eq_true rfl⟩ ⟨rfl, rfl⟩ ⟨Nat.zero_le _, Nat.zero_le _⟩ rfl (Nat.le_of_ble_eq_true rfl) rfl dX6_after_4 ?_
  refine r_if_eq (tgt := 19) dX6_after_7 (by decide) (fun h7 => ?_) (fun h7 => ?_)
  · replace hg := (if_pos h7).symm.trans hg
    exact r_sub [] rfl (J19 wt ert flt met pt prt hg)
  · replace hg := (if_neg h7).symm.trans hg
    refine r_iload_n dX6_after_10 3 rfl ?_
    refine r_iconst (v := 0) dX6_after_11 kic_0 ?_
    refine r_iconst (v := 4) dX6_after_12 kic_4 ?_
    obtain ⟨o13, e13, hg⟩ := ob hg
    refine r_callS (As := [.int n3, .int 0, .int 4]) (rest := []) (ws' := wT Z t (a 0) (b 0) hj hq hi ++ (wP Z a w er fl me p pr ++ (wP Z b wt ert flt met pt prt))) (fun l => c_X6_isWithin Z l   n3 0 4 o13 e13) qw_195 ms_X6_isWithin xPk.none ⟨Nat.le_of_ble_eq_true rfl, Nat.le_of_ble_eq_true rfl⟩ ⟨rfl, rfl⟩ ⟨Nat.zero_le _, Nat.zero_le _⟩ rfl (Nat.le_of_ble_eq_true rfl) rfl dX6_after_13 ?_
    refine r_if_ne (tgt := 21) dX6_after_16 (by decide) (fun h16 => ?_) (fun h16 => ?_)
    · replace hg := (if_neg h16).symm.trans hg
      refine r_aload_n dX6_after_21 0 rfl ?_
      refine gf_X6_0 (v := .ref (a 0)) 0 rfl rfl qw_175 dX6_after_22 ?_
      refine r_iload_n dX6_after_25 1 rfl ?_
      obtain ⟨o26, e26, hg⟩ := ob hg
      refine r_callV (As := [.int n1]) (rest := []) (ws' := wT Z t (a 0) (b 0) hj hq hi ++ (wP Z a w er fl me p pr ++ (wP Z b wt ert flt met pt prt))) 0 rfl rfl rfl (fun l => c_X5_refusalOf Z l a w er fl me p pr n1 o26 e26) qw_217 mv_X5_refusalOf (xPk.idx [1, 2, 3, 4, 5, 6] rfl rfl rfl rfl rfl) ⟨Nat.le_of_ble_eq_true rfl, Nat.le_of_ble_eq_true rfl⟩ ⟨rfl, rfl⟩ ⟨Nat.zero_le _, Nat.zero_le _⟩ rfl (Nat.le_of_ble_eq_true rfl) rfl dX6_after_26 ?_
      refine r_istore (lv' := [(4, .int o26), (0, .ref t), (1, .int n1), (2, .int n2), (3, .int n3)]) dX6_after_29 (by decide) rfl ?_
      refine r_iload dX6_after_31 0 rfl ?_
      refine r_if_eq (tgt := 39) dX6_after_33 (by decide) (fun h33 => ?_) (fun h33 => ?_)
      · replace hg := (if_pos h33).symm.trans hg
        refine r_aload_n dX6_after_39 1 rfl ?_
        refine r_iload_n dX6_after_40 2 rfl ?_
        refine r_iload_n dX6_after_41 3 rfl ?_
        obtain ⟨o42, e42, hg⟩ := ob hg
        refine r_callV (As := [.int n1, .int n2]) (rest := []) (ws' := wT Z t (a 0) (b 0) hj hq hi ++ (wP Z a w er fl me p pr ++ (wP Z b o42.1 o42.2.1 o42.2.2.1 o42.2.2.2.1 o42.2.2.2.2.1 o42.2.2.2.2.2))) 0 rfl rfl rfl (fun l => c_X6_trySale Z l t hj hq hi a b w er fl me p pr wt ert flt met pt prt n1 n2 o42 e42) qw_537 mv_X6_trySale (xPk.all rfl) ⟨Nat.le_of_ble_eq_true rfl, Nat.le_of_ble_eq_true rfl⟩ ⟨rfl, rfl⟩ ⟨Nat.zero_le _, Nat.zero_le _⟩ rfl (Nat.le_of_ble_eq_true rfl) rfl dX6_after_42 ?_
        refine r_aload_n dX6_after_45 1 rfl ?_
        refine gf_X6_1 (v := .ref (b 0)) 0 rfl rfl qw_176 dX6_after_46 ?_
        refine gfN_X5_3 (v := .int (o42.2.2.2.2.2 0)) 7 rfl rfl qw_102 dX6_after_49 ?_
        refine r_if_ne (tgt := 62) dX6_after_52 (by decide) (fun h52 => ?_) (fun h52 => ?_)
        · replace hg := (if_neg h52).symm.trans hg
          exact r_sub [1, 4] rfl (J62 n3 o42.1 o42.2.1 o42.2.2.1 o42.2.2.2.1 o42.2.2.2.2.1 o42.2.2.2.2.2 hg)
        · replace hg := (if_pos h52).symm.trans hg
          refine r_aload_n dX6_after_55 1 rfl ?_
          refine gf_X6_1 (v := .ref (b 0)) 0 rfl rfl qw_176 dX6_after_56 ?_
          obtain ⟨o59, e59, hg⟩ := ob hg
          refine r_callV (As := []) (rest := []) (ws' := wT Z t (a 0) (b 0) hj hq hi ++ (wP Z a w er fl me p pr ++ (wP Z b o42.1 o42.2.1 o42.2.2.1 o59.1 o42.2.2.2.2.1 o59.2))) 0 rfl rfl rfl (fun l => c_X5_wake Z l b o42.1 o42.2.1 o42.2.2.1 o42.2.2.2.1 o42.2.2.2.2.1 o42.2.2.2.2.2  o59 e59) qw_409 mv_X5_wake (xPk.idx [7, 8, 9, 10, 11, 12] rfl rfl rfl rfl rfl) ⟨Nat.le_of_ble_eq_true rfl, Nat.le_of_ble_eq_true rfl⟩ ⟨rfl, rfl⟩ ⟨Nat.zero_le _, Nat.zero_le _⟩ rfl (Nat.le_of_ble_eq_true rfl) rfl dX6_after_59 ?_
          exact r_sub [1, 4] rfl (J62 n3 o42.1 o42.2.1 o42.2.2.1 o59.1 o42.2.2.2.2.1 o59.2 hg)
      · replace hg := (if_neg h33).symm.trans hg
        refine r_iload dX6_after_36 0 rfl ?_
        exact r_iret (hE _ (Option.some.inj hg)) dX6_after_38
    · replace hg := (if_pos h16).symm.trans hg
      exact r_sub [] rfl (J19 wt ert flt met pt prt hg)

-- TicketJournal.needed(I)I
abbrev rm_X6_needed : Room := { frames := 3, cells := 0, slots := 0, locals := 63 }
def g_X6_needed (me : Nat → Int32) (p : Nat → Int32) (pr : Nat → Int32) (n1 : Int32) : Option (Int32) :=
  (g_X5_refusalOf me p pr n1).bind fun o5 => (if o5 = 0 then (if (me 1) = 4 then some (11) else some (4)) else some (o5))
set_option maxHeartbeats 4000000 in
set_option maxRecDepth 100000 in
theorem c_X6_needed (Z : GZ) (l : Launch) (t : Nat) (tr0 : Nat) (hj : Nat) (hq : Nat) (hi : Nat) (a : Nat → Nat) (w : Nat → Int32) (er : Nat → Int32) (fl : Nat → Int32) (me : Nat → Int32) (p : Nat → Int32) (pr : Nat → Int32) (n1 : Int32) (o : (Int32)) (hg : g_X6_needed me p pr n1 = some o) : Con Z l yX6_needed cX6_needed 3 (some .int) rm_X6_needed [.ref t, .int n1] (wT Z t (a 0) tr0 hj hq hi ++ (wP Z a w er fl me p pr)) (some (.int o)) (wT Z t (a 0) tr0 hj hq hi ++ (wP Z a w er fl me p pr)) := by
  refine Con.of (by decide) (Nat.le_of_ble_eq_true rfl) ?_
  intro X hE0
  have hE : ∀ z, z = o → endsX X Z (some .int) (some (.int z)) (wT Z t (a 0) tr0 hj hq hi ++ (wP Z a w er fl me p pr)) := by
    rintro _ rfl; exact hE0
  unfold g_X6_needed at hg
  show AtK X Z rm_X6_needed cX6_needed RX6 3 0 0 (wT Z t (a 0) tr0 hj hq hi ++ (wP Z a w er fl me p pr)) 0 [(0, .ref t), (1, .int n1)] []
  refine r_aload_n dX6_needed_0 0 rfl ?_
  refine gf_X6_0 (v := .ref (a 0)) 0 rfl rfl qw_175 dX6_needed_1 ?_
  refine r_iload_n dX6_needed_4 1 rfl ?_
  obtain ⟨o5, e5, hg⟩ := ob hg
  refine r_callV (As := [.int n1]) (rest := []) (ws' := wT Z t (a 0) tr0 hj hq hi ++ (wP Z a w er fl me p pr)) 0 rfl rfl rfl (fun l => c_X5_refusalOf Z l a w er fl me p pr n1 o5 e5) qw_217 mv_X5_refusalOf (xPk.idx [1, 2, 3, 4, 5, 6] rfl rfl rfl rfl rfl) ⟨Nat.le_of_ble_eq_true rfl, Nat.le_of_ble_eq_true rfl⟩ ⟨rfl, rfl⟩ ⟨Nat.zero_le _, Nat.zero_le _⟩ rfl (Nat.le_of_ble_eq_true rfl) rfl dX6_needed_5 ?_
  refine r_istore_n (lv' := [(2, .int o5), (0, .ref t), (1, .int n1)]) dX6_needed_8 (by decide) rfl ?_
  refine r_iload_n dX6_needed_9 0 rfl ?_
  refine r_if_eq (tgt := 15) dX6_needed_10 (by decide) (fun h10 => ?_) (fun h10 => ?_)
  · replace hg := (if_pos h10).symm.trans hg
    refine r_aload_n dX6_needed_15 1 rfl ?_
    refine gf_X6_0 (v := .ref (a 0)) 0 rfl rfl qw_175 dX6_needed_16 ?_
    refine gfN_X5_1 (v := .ref (a 4)) 1 rfl rfl qw_99 dX6_needed_19 ?_
    refine gfN_X3_1 (v := .int (me 1)) 5 rfl rfl qw_70 dX6_needed_22 ?_
    refine r_iconst (v := 4) dX6_needed_25 kic_4 ?_
    refine r_icmp_ne (tgt := 34) dX6_needed_26 (by decide) (fun h26 => ?_) (fun h26 => ?_)
    · replace hg := (if_neg h26).symm.trans hg
      refine r_iconst (v := 4) dX6_needed_34 kic_4 ?_
      exact r_iret (hE _ (Option.some.inj hg)) dX6_needed_35
    · replace hg := (if_pos h26).symm.trans hg
      refine r_bipush (v := 11) dX6_needed_29 kbp_11 ?_
      refine r_goto (tgt := 35) dX6_needed_31 (by decide) ?_
      exact r_iret (hE _ (Option.some.inj hg)) dX6_needed_35
  · replace hg := (if_neg h10).symm.trans hg
    refine r_iload_n dX6_needed_13 0 rfl ?_
    exact r_iret (hE _ (Option.some.inj hg)) dX6_needed_14

-- TicketJournal.records(I)I
abbrev rm_X6_records : Room := { frames := 6, cells := 0, slots := 0, locals := 139 }
def g_X6_records (w : Nat → Int32) (d : Nat → Int32) (jc : Int32) (n1 : Int32) : Option (Int32 × (Nat → Int32) × (Int32)) :=
  (if n1 = (-2) then (g_X0_tally w 2).bind fun o36 => some (o36, d, jc) else (if n1 = (-1) then (g_X0_tally w 1).bind fun o48 => some (o48, d, jc) else (g_X6_isWithin n1 0 4).bind fun o55 => (if o55 = 0 then some ((-1), d, jc) else (g_X2_gather d jc w).bind fun o72 => (g_X2_countOf o72.1 o72.2 n1).bind fun o76 => some (o76, o72.1, o72.2))))
set_option maxHeartbeats 4000000 in
set_option maxRecDepth 100000 in
theorem c_X6_records (Z : GZ) (l : Launch) (t : Nat) (tr0 : Nat) (hq : Nat) (hi : Nat) (a : Nat → Nat) (hj : Nat) (hd : Nat) (w : Nat → Int32) (er : Nat → Int32) (fl : Nat → Int32) (me : Nat → Int32) (p : Nat → Int32) (pr : Nat → Int32) (d : Nat → Int32) (jc : Int32) (n1 : Int32) (o : (Int32 × (Nat → Int32) × (Int32))) (hg : g_X6_records w d jc n1 = some o) : Con Z l yX6_records cX6_records 2 (some .int) rm_X6_records [.ref t, .int n1] (wT Z t (a 0) tr0 hj hq hi ++ (wP Z a w er fl me p pr ++ (wJ Z hj hd d jc))) (some (.int o.1)) (wT Z t (a 0) tr0 hj hq hi ++ (wP Z a w er fl me p pr ++ (wJ Z hj hd o.2.1 o.2.2))) := by
  refine Con.of (by decide) (Nat.le_of_ble_eq_true rfl) ?_
  intro X hE0
  have hE : ∀ z, z = o → endsX X Z (some .int) (some (.int z.1)) (wT Z t (a 0) tr0 hj hq hi ++ (wP Z a w er fl me p pr ++ (wJ Z hj hd z.2.1 z.2.2))) := by
    rintro _ rfl; exact hE0
  unfold g_X6_records at hg
  show AtK X Z rm_X6_records cX6_records RX6 2 0 0 (wT Z t (a 0) tr0 hj hq hi ++ (wP Z a w er fl me p pr ++ (wJ Z hj hd d jc))) 0 [(0, .ref t), (1, .int n1)] []
  refine r_iload_n dX6_records_0 1 rfl ?_
  by_cases h1_m2 : n1 = (-2)
  · replace hg := (if_pos h1_m2).symm.trans hg
    refine r_lookup (tgt := 28) (off := 27) dX6_records_1 (by decide) (by rw [h1_m2]; decide) (by decide) ?_
    refine r_aload_n dX6_records_28 0 rfl ?_
    refine gf_X6_0 (v := .ref (a 0)) 0 rfl rfl qw_175 dX6_records_29 ?_
    refine gfN_X5_0 (v := .ref (a 1)) 1 rfl rfl qw_97 dX6_records_32 ?_
    refine r_iconst (v := 2) dX6_records_35 kic_2 ?_
    obtain ⟨o36, e36, hg⟩ := ob hg
    refine r_callV (As := [.int 2]) (rest := []) (ws' := wT Z t (a 0) tr0 hj hq hi ++ (wP Z a w er fl me p pr ++ (wJ Z hj hd d jc))) 0 rfl rfl rfl (fun l => c_X0_tally Z l (a 1) (a 2) (a 3) w er fl 2 o36 e36) qw_391 mv_X0_tally (xPk.idx [2, 3, 4] rfl rfl rfl rfl rfl) ⟨Nat.le_of_ble_eq_true rfl, Nat.le_of_ble_eq_true rfl⟩ ⟨rfl, rfl⟩ ⟨Nat.zero_le _, Nat.zero_le _⟩ rfl (Nat.le_of_ble_eq_true rfl) rfl dX6_records_36 ?_
    exact r_iret (hE _ (Option.some.inj hg)) dX6_records_39
  replace hg := (if_neg h1_m2).symm.trans hg
  by_cases h1_m1 : n1 = (-1)
  · replace hg := (if_pos h1_m1).symm.trans hg
    refine r_lookup (tgt := 40) (off := 39) dX6_records_1 (by decide) (by rw [h1_m1]; decide) (by decide) ?_
    refine r_aload_n dX6_records_40 0 rfl ?_
    refine gf_X6_0 (v := .ref (a 0)) 0 rfl rfl qw_175 dX6_records_41 ?_
    refine gfN_X5_0 (v := .ref (a 1)) 1 rfl rfl qw_97 dX6_records_44 ?_
    refine r_iconst (v := 1) dX6_records_47 kic_1 ?_
    obtain ⟨o48, e48, hg⟩ := ob hg
    refine r_callV (As := [.int 1]) (rest := []) (ws' := wT Z t (a 0) tr0 hj hq hi ++ (wP Z a w er fl me p pr ++ (wJ Z hj hd d jc))) 0 rfl rfl rfl (fun l => c_X0_tally Z l (a 1) (a 2) (a 3) w er fl 1 o48 e48) qw_391 mv_X0_tally (xPk.idx [2, 3, 4] rfl rfl rfl rfl rfl) ⟨Nat.le_of_ble_eq_true rfl, Nat.le_of_ble_eq_true rfl⟩ ⟨rfl, rfl⟩ ⟨Nat.zero_le _, Nat.zero_le _⟩ rfl (Nat.le_of_ble_eq_true rfl) rfl dX6_records_48 ?_
    exact r_iret (hE _ (Option.some.inj hg)) dX6_records_51
  replace hg := (if_neg h1_m1).symm.trans hg
  have n1_m2 : ¬ n1.toInt = (-2) := x_nei (by decide) h1_m2
  have n1_m1 : ¬ n1.toInt = (-1) := x_nei (by decide) h1_m1
  refine r_lookup (tgt := 52) (off := 51) dX6_records_1 (by decide) (by simp [Op.lookupswitch.offset, Ne.symm n1_m2, Ne.symm n1_m1]) (by decide) ?_
  refine r_iload_n dX6_records_52 1 rfl ?_
  refine r_iconst (v := 0) dX6_records_53 kic_0 ?_
  refine r_iconst (v := 4) dX6_records_54 kic_4 ?_
  obtain ⟨o55, e55, hg⟩ := ob hg
  refine r_callS (As := [.int n1, .int 0, .int 4]) (rest := []) (ws' := wT Z t (a 0) tr0 hj hq hi ++ (wP Z a w er fl me p pr ++ (wJ Z hj hd d jc))) (fun l => c_X6_isWithin Z l   n1 0 4 o55 e55) qw_195 ms_X6_isWithin xPk.none ⟨Nat.le_of_ble_eq_true rfl, Nat.le_of_ble_eq_true rfl⟩ ⟨rfl, rfl⟩ ⟨Nat.zero_le _, Nat.zero_le _⟩ rfl (Nat.le_of_ble_eq_true rfl) rfl dX6_records_55 ?_
  refine r_if_eq (tgt := 82) dX6_records_58 (by decide) (fun h58 => ?_) (fun h58 => ?_)
  · replace hg := (if_pos h58).symm.trans hg
    refine r_iconst (v := (-1)) dX6_records_82 kic_m1 ?_
    exact r_iret (hE _ (Option.some.inj hg)) dX6_records_83
  · replace hg := (if_neg h58).symm.trans hg
    refine r_aload_n dX6_records_61 0 rfl ?_
    refine gf_X6_2 (v := .ref hj) 0 rfl rfl qw_177 dX6_records_62 ?_
    refine r_aload_n dX6_records_65 0 rfl ?_
    refine gf_X6_0 (v := .ref (a 0)) 0 rfl rfl qw_175 dX6_records_66 ?_
    refine gfN_X5_0 (v := .ref (a 1)) 1 rfl rfl qw_97 dX6_records_69 ?_
    obtain ⟨o72, e72, hg⟩ := ob hg
    refine r_callV (As := [.ref (a 1)]) (rest := []) (ws' := wT Z t (a 0) tr0 hj hq hi ++ (wP Z a w er fl me p pr ++ (wJ Z hj hd o72.1 o72.2))) 0 rfl rfl rfl (fun l => c_X2_gather Z l hj hd (a 1) (a 2) (a 3) d jc w er fl  o72 e72) qw_466 mv_X2_gather (xPk.idx [7, 8, 2, 3, 4] rfl rfl rfl rfl rfl) ⟨Nat.le_of_ble_eq_true rfl, Nat.le_of_ble_eq_true rfl⟩ ⟨rfl, rfl⟩ ⟨Nat.zero_le _, Nat.zero_le _⟩ rfl (Nat.le_of_ble_eq_true rfl) rfl dX6_records_72 ?_
    refine r_iload_n dX6_records_75 1 rfl ?_
    obtain ⟨o76, e76, hg⟩ := ob hg
    refine r_callV (As := [.int n1]) (rest := []) (ws' := wT Z t (a 0) tr0 hj hq hi ++ (wP Z a w er fl me p pr ++ (wJ Z hj hd o72.1 o72.2))) 0 rfl rfl rfl (fun l => c_X2_countOf Z l hj hd o72.1 o72.2 n1 o76 e76) qw_482 mv_X2_countOf (xPk.idx [7, 8] rfl rfl rfl rfl rfl) ⟨Nat.le_of_ble_eq_true rfl, Nat.le_of_ble_eq_true rfl⟩ ⟨rfl, rfl⟩ ⟨Nat.zero_le _, Nat.zero_le _⟩ rfl (Nat.le_of_ble_eq_true rfl) rfl dX6_records_76 ?_
    refine r_goto (tgt := 83) dX6_records_79 (by decide) ?_
    exact r_iret (hE _ (Option.some.inj hg)) dX6_records_83

-- TicketJournal.record(II)I
abbrev rm_X6_record : Room := { frames := 5, cells := 0, slots := 0, locals := 118 }
def g_X6_record_13 (w : Nat → Int32)  (d : Nat → Int32) (jc : Int32) : Option (Int32 × (Nat → Int32) × (Int32)) :=
  some ((-1), d, jc)
def g_X6_record (w : Nat → Int32) (d : Nat → Int32) (jc : Int32) (n1 : Int32) (n2 : Int32) : Option (Int32 × (Nat → Int32) × (Int32)) :=
  (if n1 < 0 then g_X6_record_13 w d jc else (g_X6_isWithin n2 0 5).bind fun o7 => (if o7 = 0 then g_X6_record_13 w d jc else (g_X2_gather d jc w).bind fun o26 => (g_X2_detail o26.1 o26.2 n1 n2).bind fun o31 => some (o31, o26.1, o26.2)))
set_option maxHeartbeats 4000000 in
set_option maxRecDepth 100000 in
theorem c_X6_record (Z : GZ) (l : Launch) (t : Nat) (tr0 : Nat) (hq : Nat) (hi : Nat) (a : Nat → Nat) (hj : Nat) (hd : Nat) (w : Nat → Int32) (er : Nat → Int32) (fl : Nat → Int32) (me : Nat → Int32) (p : Nat → Int32) (pr : Nat → Int32) (d : Nat → Int32) (jc : Int32) (n1 : Int32) (n2 : Int32) (o : (Int32 × (Nat → Int32) × (Int32))) (hg : g_X6_record w d jc n1 n2 = some o) : Con Z l yX6_record cX6_record 3 (some .int) rm_X6_record [.ref t, .int n1, .int n2] (wT Z t (a 0) tr0 hj hq hi ++ (wP Z a w er fl me p pr ++ (wJ Z hj hd d jc))) (some (.int o.1)) (wT Z t (a 0) tr0 hj hq hi ++ (wP Z a w er fl me p pr ++ (wJ Z hj hd o.2.1 o.2.2))) := by
  refine Con.of (by decide) (Nat.le_of_ble_eq_true rfl) ?_
  intro X hE0
  have hE : ∀ z, z = o → endsX X Z (some .int) (some (.int z.1)) (wT Z t (a 0) tr0 hj hq hi ++ (wP Z a w er fl me p pr ++ (wJ Z hj hd z.2.1 z.2.2))) := by
    rintro _ rfl; exact hE0
  have J13 : ∀ (d : Nat → Int32) (jc : Int32), g_X6_record_13 w d jc = some o → AtK X Z rm_X6_record cX6_record RX6 3 0 0 (wT Z t (a 0) tr0 hj hq hi ++ (wP Z a w er fl me p pr ++ (wJ Z hj hd d jc))) 13 [] [] := by
    intro d jc hg
    unfold g_X6_record_13 at hg
    refine r_iconst (v := (-1)) dX6_record_13 kic_m1 ?_
    exact r_iret (hE _ (Option.some.inj hg)) dX6_record_14
  unfold g_X6_record at hg
  show AtK X Z rm_X6_record cX6_record RX6 3 0 0 (wT Z t (a 0) tr0 hj hq hi ++ (wP Z a w er fl me p pr ++ (wJ Z hj hd d jc))) 0 [(0, .ref t), (1, .int n1), (2, .int n2)] []
  refine r_iload_n dX6_record_0 1 rfl ?_
  refine r_if_lt (tgt := 13) dX6_record_1 (by decide) (fun h1 => ?_) (fun h1 => ?_)
  · replace hg := (if_pos h1).symm.trans hg
    exact r_sub [] rfl (J13 d jc hg)
  · replace hg := (if_neg h1).symm.trans hg
    refine r_iload_n dX6_record_4 2 rfl ?_
    refine r_iconst (v := 0) dX6_record_5 kic_0 ?_
    refine r_iconst (v := 5) dX6_record_6 kic_5 ?_
    obtain ⟨o7, e7, hg⟩ := ob hg
    refine r_callS (As := [.int n2, .int 0, .int 5]) (rest := []) (ws' := wT Z t (a 0) tr0 hj hq hi ++ (wP Z a w er fl me p pr ++ (wJ Z hj hd d jc))) (fun l => c_X6_isWithin Z l   n2 0 5 o7 e7) qw_195 ms_X6_isWithin xPk.none ⟨Nat.le_of_ble_eq_true rfl, Nat.le_of_ble_eq_true rfl⟩ ⟨rfl, rfl⟩ ⟨Nat.zero_le _, Nat.zero_le _⟩ rfl (Nat.le_of_ble_eq_true rfl) rfl dX6_record_7 ?_
    refine r_if_ne (tgt := 15) dX6_record_10 (by decide) (fun h10 => ?_) (fun h10 => ?_)
    · replace hg := (if_neg h10).symm.trans hg
      refine r_aload_n dX6_record_15 0 rfl ?_
      refine gf_X6_2 (v := .ref hj) 0 rfl rfl qw_177 dX6_record_16 ?_
      refine r_aload_n dX6_record_19 0 rfl ?_
      refine gf_X6_0 (v := .ref (a 0)) 0 rfl rfl qw_175 dX6_record_20 ?_
      refine gfN_X5_0 (v := .ref (a 1)) 1 rfl rfl qw_97 dX6_record_23 ?_
      obtain ⟨o26, e26, hg⟩ := ob hg
      refine r_callV (As := [.ref (a 1)]) (rest := []) (ws' := wT Z t (a 0) tr0 hj hq hi ++ (wP Z a w er fl me p pr ++ (wJ Z hj hd o26.1 o26.2))) 0 rfl rfl rfl (fun l => c_X2_gather Z l hj hd (a 1) (a 2) (a 3) d jc w er fl  o26 e26) qw_466 mv_X2_gather (xPk.idx [7, 8, 2, 3, 4] rfl rfl rfl rfl rfl) ⟨Nat.le_of_ble_eq_true rfl, Nat.le_of_ble_eq_true rfl⟩ ⟨rfl, rfl⟩ ⟨Nat.zero_le _, Nat.zero_le _⟩ rfl (Nat.le_of_ble_eq_true rfl) rfl dX6_record_26 ?_
      refine r_iload_n dX6_record_29 1 rfl ?_
      refine r_iload_n dX6_record_30 2 rfl ?_
      obtain ⟨o31, e31, hg⟩ := ob hg
      refine r_callV (As := [.int n1, .int n2]) (rest := []) (ws' := wT Z t (a 0) tr0 hj hq hi ++ (wP Z a w er fl me p pr ++ (wJ Z hj hd o26.1 o26.2))) 0 rfl rfl rfl (fun l => c_X2_detail Z l hj hd o26.1 o26.2 n1 n2 o31 e31) qw_522 mv_X2_detail (xPk.idx [7, 8] rfl rfl rfl rfl rfl) ⟨Nat.le_of_ble_eq_true rfl, Nat.le_of_ble_eq_true rfl⟩ ⟨rfl, rfl⟩ ⟨Nat.zero_le _, Nat.zero_le _⟩ rfl (Nat.le_of_ble_eq_true rfl) rfl dX6_record_31 ?_
      exact r_iret (hE _ (Option.some.inj hg)) dX6_record_34
    · replace hg := (if_pos h10).symm.trans hg
      exact r_sub [] rfl (J13 d jc hg)

-- TicketJournal.takings(I)I
abbrev rm_X6_takings : Room := { frames := 5, cells := 0, slots := 0, locals := 118 }
def g_X6_takings_14 (w : Nat → Int32)  (x1 : Int32) (d : Nat → Int32) (jc : Int32) : Option (Int32 × (Nat → Int32) × (Int32)) :=
  (g_X2_gather d jc w).bind fun o25 => (g_X2_pricesOf o25.1 o25.2 0 x1).bind fun o32 => (g_X2_pricesOf o25.1 o25.2 1 x1).bind fun o38 => some ((o32 - o38), o25.1, o25.2)
def g_X6_takings (w : Nat → Int32) (d : Nat → Int32) (jc : Int32) (n1 : Int32) : Option (Int32 × (Nat → Int32) × (Int32)) :=
  (if n1 = (-1) then g_X6_takings_14 w n1 d jc else (g_X6_isSort n1).bind fun o6 => (if o6 = 0 then some ((-1), d, jc) else g_X6_takings_14 w n1 d jc))
set_option maxHeartbeats 4000000 in
set_option maxRecDepth 100000 in
theorem c_X6_takings (Z : GZ) (l : Launch) (t : Nat) (tr0 : Nat) (hq : Nat) (hi : Nat) (a : Nat → Nat) (hj : Nat) (hd : Nat) (w : Nat → Int32) (er : Nat → Int32) (fl : Nat → Int32) (me : Nat → Int32) (p : Nat → Int32) (pr : Nat → Int32) (d : Nat → Int32) (jc : Int32) (n1 : Int32) (o : (Int32 × (Nat → Int32) × (Int32))) (hg : g_X6_takings w d jc n1 = some o) : Con Z l yX6_takings cX6_takings 3 (some .int) rm_X6_takings [.ref t, .int n1] (wT Z t (a 0) tr0 hj hq hi ++ (wP Z a w er fl me p pr ++ (wJ Z hj hd d jc))) (some (.int o.1)) (wT Z t (a 0) tr0 hj hq hi ++ (wP Z a w er fl me p pr ++ (wJ Z hj hd o.2.1 o.2.2))) := by
  refine Con.of (by decide) (Nat.le_of_ble_eq_true rfl) ?_
  intro X hE0
  have hE : ∀ z, z = o → endsX X Z (some .int) (some (.int z.1)) (wT Z t (a 0) tr0 hj hq hi ++ (wP Z a w er fl me p pr ++ (wJ Z hj hd z.2.1 z.2.2))) := by
    rintro _ rfl; exact hE0
  have J14 : ∀ (x1 : Int32) (d : Nat → Int32) (jc : Int32), g_X6_takings_14 w x1 d jc = some o → AtK X Z rm_X6_takings cX6_takings RX6 3 0 0 (wT Z t (a 0) tr0 hj hq hi ++ (wP Z a w er fl me p pr ++ (wJ Z hj hd d jc))) 14 [(0, .ref t), (1, .int x1)] [] := by
    intro x1 d jc hg
    unfold g_X6_takings_14 at hg
    refine r_aload_n dX6_takings_14 0 rfl ?_
    refine gf_X6_2 (v := .ref hj) 0 rfl rfl qw_177 dX6_takings_15 ?_
    refine r_aload_n dX6_takings_18 0 rfl ?_
    refine gf_X6_0 (v := .ref (a 0)) 0 rfl rfl qw_175 dX6_takings_19 ?_
    refine gfN_X5_0 (v := .ref (a 1)) 1 rfl rfl qw_97 dX6_takings_22 ?_
    obtain ⟨o25, e25, hg⟩ := ob hg
    refine r_callV (As := [.ref (a 1)]) (rest := []) (ws' := wT Z t (a 0) tr0 hj hq hi ++ (wP Z a w er fl me p pr ++ (wJ Z hj hd o25.1 o25.2))) 0 rfl rfl rfl (fun l => c_X2_gather Z l hj hd (a 1) (a 2) (a 3) d jc w er fl  o25 e25) qw_466 mv_X2_gather (xPk.idx [7, 8, 2, 3, 4] rfl rfl rfl rfl rfl) ⟨Nat.le_of_ble_eq_true rfl, Nat.le_of_ble_eq_true rfl⟩ ⟨rfl, rfl⟩ ⟨Nat.zero_le _, Nat.zero_le _⟩ rfl (Nat.le_of_ble_eq_true rfl) rfl dX6_takings_25 ?_
    refine r_astore_n (lv' := [(2, .ref hj), (0, .ref t), (1, .int x1)]) dX6_takings_28 (by decide) rfl ?_
    refine r_aload_n dX6_takings_29 0 rfl ?_
    refine r_iconst (v := 0) dX6_takings_30 kic_0 ?_
    refine r_iload_n dX6_takings_31 2 rfl ?_
    obtain ⟨o32, e32, hg⟩ := ob hg
    refine r_callV (As := [.int 0, .int x1]) (rest := []) (ws' := wT Z t (a 0) tr0 hj hq hi ++ (wP Z a w er fl me p pr ++ (wJ Z hj hd o25.1 o25.2))) 0 rfl rfl rfl (fun l => c_X2_pricesOf Z l hj hd o25.1 o25.2 0 x1 o32 e32) qw_514 mv_X2_pricesOf (xPk.idx [7, 8] rfl rfl rfl rfl rfl) ⟨Nat.le_of_ble_eq_true rfl, Nat.le_of_ble_eq_true rfl⟩ ⟨rfl, rfl⟩ ⟨Nat.zero_le _, Nat.zero_le _⟩ rfl (Nat.le_of_ble_eq_true rfl) rfl dX6_takings_32 ?_
    refine r_aload_n dX6_takings_35 0 rfl ?_
    refine r_iconst (v := 1) dX6_takings_36 kic_1 ?_
    refine r_iload_n dX6_takings_37 2 rfl ?_
    obtain ⟨o38, e38, hg⟩ := ob hg
    refine r_callV (As := [.int 1, .int x1]) (rest := [.int o32]) (ws' := wT Z t (a 0) tr0 hj hq hi ++ (wP Z a w er fl me p pr ++ (wJ Z hj hd o25.1 o25.2))) 0 rfl rfl rfl (fun l => c_X2_pricesOf Z l hj hd o25.1 o25.2 1 x1 o38 e38) qw_514 mv_X2_pricesOf (xPk.idx [7, 8] rfl rfl rfl rfl rfl) ⟨Nat.le_of_ble_eq_true rfl, Nat.le_of_ble_eq_true rfl⟩ ⟨rfl, rfl⟩ ⟨Nat.zero_le _, Nat.zero_le _⟩ rfl (Nat.le_of_ble_eq_true rfl) rfl dX6_takings_38 ?_
    refine r_isub dX6_takings_41 ?_
    exact r_iret (hE _ (Option.some.inj hg)) dX6_takings_42
  unfold g_X6_takings at hg
  show AtK X Z rm_X6_takings cX6_takings RX6 3 0 0 (wT Z t (a 0) tr0 hj hq hi ++ (wP Z a w er fl me p pr ++ (wJ Z hj hd d jc))) 0 [(0, .ref t), (1, .int n1)] []
  refine r_iload_n dX6_takings_0 1 rfl ?_
  refine r_iconst (v := (-1)) dX6_takings_1 kic_m1 ?_
  refine r_icmp_eq (tgt := 14) dX6_takings_2 (by decide) (fun h2 => ?_) (fun h2 => ?_)
  · replace hg := (if_pos h2).symm.trans hg
    exact r_sub [0, 1] rfl (J14 n1 d jc hg)
  · replace hg := (if_neg h2).symm.trans hg
    refine r_iload_n dX6_takings_5 1 rfl ?_
    obtain ⟨o6, e6, hg⟩ := ob hg
    refine r_callS (As := [.int n1]) (rest := []) (ws' := wT Z t (a 0) tr0 hj hq hi ++ (wP Z a w er fl me p pr ++ (wJ Z hj hd d jc))) (fun l => c_X6_isSort Z l   n1 o6 e6) qw_376 ms_X6_isSort xPk.none ⟨Nat.le_of_ble_eq_true rfl, Nat.le_of_ble_eq_true rfl⟩ ⟨rfl, rfl⟩ ⟨Nat.zero_le _, Nat.zero_le _⟩ rfl (Nat.le_of_ble_eq_true rfl) rfl dX6_takings_6 ?_
    refine r_if_ne (tgt := 14) dX6_takings_9 (by decide) (fun h9 => ?_) (fun h9 => ?_)
    · replace hg := (if_neg h9).symm.trans hg
      exact r_sub [0, 1] rfl (J14 n1 d jc hg)
    · replace hg := (if_pos h9).symm.trans hg
      refine r_iconst (v := (-1)) dX6_takings_12 kic_m1 ?_
      exact r_iret (hE _ (Option.some.inj hg)) dX6_takings_13

-- TicketJournal.sell(I)I
abbrev rm_X6_sell : Room := { frames := 5, cells := 0, slots := 0, locals := 118 }
def g_X6_sell (w : Nat → Int32) (er : Nat → Int32) (fl : Nat → Int32) (me : Nat → Int32) (p : Nat → Int32) (pr : Nat → Int32) (pv : Nat → Int32) (W8 : Nat → Nat → Int32) (E8 : Nat → Nat → Int32) (F8 : Nat → Nat → Int32) (M8 : Nat → Nat → Int32) (P8 : Nat → Nat → Int32) (R8 : Nat → Nat → Int32) (n1 : Int32) : Option (Int32 × (Nat → Int32) × (Nat → Int32) × (Nat → Int32) × (Nat → Int32) × (Nat → Int32) × (Nat → Int32) × (Nat → Nat → Int32) × (Nat → Nat → Int32) × (Nat → Nat → Int32) × (Nat → Nat → Int32) × (Nat → Nat → Int32) × (Nat → Nat → Int32)) :=
  (g_X5_refusalOf me p pr n1).bind fun o5 => (if o5 = 0 then (g_X4_remember pv W8 E8 F8 M8 P8 R8 w er fl me p pr).bind fun o23 => (g_X5_issueTicket w er fl me p pr n1).bind fun o31 => some (o31.1, o31.2.1, o31.2.2.1, o31.2.2.2.1, o31.2.2.2.2.1, o31.2.2.2.2.2, o23.1, o23.2.1, o23.2.2.1, o23.2.2.2.1, o23.2.2.2.2.1, o23.2.2.2.2.2.1, o23.2.2.2.2.2.2) else some (o5, w, er, fl, me, pr, pv, W8, E8, F8, M8, P8, R8))
set_option maxHeartbeats 4000000 in
set_option maxRecDepth 100000 in
theorem c_X6_sell (Z : GZ) (l : Launch) (t : Nat) (tr0 : Nat) (hj : Nat) (hi : Nat) (a : Nat → Nat) (hq : Nat) (hs : Nat) (AD : Nat → Nat → Nat) (w : Nat → Int32) (er : Nat → Int32) (fl : Nat → Int32) (me : Nat → Int32) (p : Nat → Int32) (pr : Nat → Int32) (pv : Nat → Int32) (W8 : Nat → Nat → Int32) (E8 : Nat → Nat → Int32) (F8 : Nat → Nat → Int32) (M8 : Nat → Nat → Int32) (P8 : Nat → Nat → Int32) (R8 : Nat → Nat → Int32) (n1 : Int32) (o : (Int32 × (Nat → Int32) × (Nat → Int32) × (Nat → Int32) × (Nat → Int32) × (Nat → Int32) × (Nat → Int32) × (Nat → Nat → Int32) × (Nat → Nat → Int32) × (Nat → Nat → Int32) × (Nat → Nat → Int32) × (Nat → Nat → Int32) × (Nat → Nat → Int32))) (hg : g_X6_sell w er fl me p pr pv W8 E8 F8 M8 P8 R8 n1 = some o) : Con Z l yX6_sell cX6_sell 3 (some .int) rm_X6_sell [.ref t, .int n1] (wT Z t (a 0) tr0 hj hq hi ++ (wP Z a w er fl me p pr ++ (wQ Z hq hs AD pv W8 E8 F8 M8 P8 R8))) (some (.int o.1)) (wT Z t (a 0) tr0 hj hq hi ++ (wP Z a o.2.1 o.2.2.1 o.2.2.2.1 o.2.2.2.2.1 p o.2.2.2.2.2.1 ++ (wQ Z hq hs AD o.2.2.2.2.2.2.1 o.2.2.2.2.2.2.2.1 o.2.2.2.2.2.2.2.2.1 o.2.2.2.2.2.2.2.2.2.1 o.2.2.2.2.2.2.2.2.2.2.1 o.2.2.2.2.2.2.2.2.2.2.2.1 o.2.2.2.2.2.2.2.2.2.2.2.2))) := by
  refine Con.of (by decide) (Nat.le_of_ble_eq_true rfl) ?_
  intro X hE0
  have hE : ∀ z, z = o → endsX X Z (some .int) (some (.int z.1)) (wT Z t (a 0) tr0 hj hq hi ++ (wP Z a z.2.1 z.2.2.1 z.2.2.2.1 z.2.2.2.2.1 p z.2.2.2.2.2.1 ++ (wQ Z hq hs AD z.2.2.2.2.2.2.1 z.2.2.2.2.2.2.2.1 z.2.2.2.2.2.2.2.2.1 z.2.2.2.2.2.2.2.2.2.1 z.2.2.2.2.2.2.2.2.2.2.1 z.2.2.2.2.2.2.2.2.2.2.2.1 z.2.2.2.2.2.2.2.2.2.2.2.2))) := by
    rintro _ rfl; exact hE0
  unfold g_X6_sell at hg
  show AtK X Z rm_X6_sell cX6_sell RX6 3 0 0 (wT Z t (a 0) tr0 hj hq hi ++ (wP Z a w er fl me p pr ++ (wQ Z hq hs AD pv W8 E8 F8 M8 P8 R8))) 0 [(0, .ref t), (1, .int n1)] []
  refine r_aload_n dX6_sell_0 0 rfl ?_
  refine gf_X6_0 (v := .ref (a 0)) 0 rfl rfl qw_175 dX6_sell_1 ?_
  refine r_iload_n dX6_sell_4 1 rfl ?_
  obtain ⟨o5, e5, hg⟩ := ob hg
  refine r_callV (As := [.int n1]) (rest := []) (ws' := wT Z t (a 0) tr0 hj hq hi ++ (wP Z a w er fl me p pr ++ (wQ Z hq hs AD pv W8 E8 F8 M8 P8 R8))) 0 rfl rfl rfl (fun l => c_X5_refusalOf Z l a w er fl me p pr n1 o5 e5) qw_217 mv_X5_refusalOf (xPk.idx [1, 2, 3, 4, 5, 6] rfl rfl rfl rfl rfl) ⟨Nat.le_of_ble_eq_true rfl, Nat.le_of_ble_eq_true rfl⟩ ⟨rfl, rfl⟩ ⟨Nat.zero_le _, Nat.zero_le _⟩ rfl (Nat.le_of_ble_eq_true rfl) rfl dX6_sell_5 ?_
  refine r_istore_n (lv' := [(2, .int o5), (0, .ref t), (1, .int n1)]) dX6_sell_8 (by decide) rfl ?_
  refine r_iload_n dX6_sell_9 0 rfl ?_
  refine r_if_eq (tgt := 15) dX6_sell_10 (by decide) (fun h10 => ?_) (fun h10 => ?_)
  · replace hg := (if_pos h10).symm.trans hg
    refine r_aload_n dX6_sell_15 1 rfl ?_
    refine gf_X6_3 (v := .ref hq) 0 rfl rfl qw_178 dX6_sell_16 ?_
    refine r_aload_n dX6_sell_19 1 rfl ?_
    refine gf_X6_0 (v := .ref (a 0)) 0 rfl rfl qw_175 dX6_sell_20 ?_
    obtain ⟨o23, e23, hg⟩ := ob hg
    refine r_callV (As := [.ref (a 0)]) (rest := []) (ws' := wT Z t (a 0) tr0 hj hq hi ++ (wP Z a w er fl me p pr ++ (wQ Z hq hs AD o23.1 o23.2.1 o23.2.2.1 o23.2.2.2.1 o23.2.2.2.2.1 o23.2.2.2.2.2.1 o23.2.2.2.2.2.2))) 0 rfl rfl rfl (fun l => c_X4_rememberQ Z l hq hs AD a pv W8 E8 F8 M8 P8 R8 w er fl me p pr  o23 e23) qw_232 mv_X4_remember (xPk.seg2r (wT Z t (a 0) tr0 hj hq hi) (wP Z a w er fl me p pr) (wP Z a w er fl me p pr) (([] : va_W)) (wQ Z hq hs AD pv W8 E8 F8 M8 P8 R8) (wQ Z hq hs AD o23.1 o23.2.1 o23.2.2.1 o23.2.2.2.1 o23.2.2.2.2.1 o23.2.2.2.2.2.1 o23.2.2.2.2.2.2) (([] : va_W)) (by simp only [List.append_assoc, List.append_nil, List.nil_append]) (by simp only [List.append_assoc, List.append_nil, List.nil_append]) rfl wQ_dom) ⟨Nat.le_of_ble_eq_true rfl, Nat.le_of_ble_eq_true rfl⟩ ⟨rfl, rfl⟩ ⟨Nat.zero_le _, Nat.zero_le _⟩ rfl (Nat.le_of_ble_eq_true rfl) rfl dX6_sell_23 ?_
    refine r_aload_n dX6_sell_26 1 rfl ?_
    refine gf_X6_0 (v := .ref (a 0)) 0 rfl rfl qw_175 dX6_sell_27 ?_
    refine r_iload_n dX6_sell_30 2 rfl ?_
    obtain ⟨o31, e31, hg⟩ := ob hg
    refine r_callV (As := [.int n1]) (rest := []) (ws' := wT Z t (a 0) tr0 hj hq hi ++ (wP Z a o31.2.1 o31.2.2.1 o31.2.2.2.1 o31.2.2.2.2.1 p o31.2.2.2.2.2 ++ (wQ Z hq hs AD o23.1 o23.2.1 o23.2.2.1 o23.2.2.2.1 o23.2.2.2.2.1 o23.2.2.2.2.2.1 o23.2.2.2.2.2.2))) 0 rfl rfl rfl (fun l => c_X5_issueTicket Z l a w er fl me p pr n1 o31 e31) qw_256 mv_X5_issueTicket (xPk.idx [1, 2, 3, 4, 5, 6] rfl rfl rfl rfl rfl) ⟨Nat.le_of_ble_eq_true rfl, Nat.le_of_ble_eq_true rfl⟩ ⟨rfl, rfl⟩ ⟨Nat.zero_le _, Nat.zero_le _⟩ rfl (Nat.le_of_ble_eq_true rfl) rfl dX6_sell_31 ?_
    exact r_iret (hE _ (Option.some.inj hg)) dX6_sell_34
  · replace hg := (if_neg h10).symm.trans hg
    refine r_iload_n dX6_sell_13 0 rfl ?_
    exact r_iret (hE _ (Option.some.inj hg)) dX6_sell_14

-- TicketJournal.cancel()I
abbrev rm_X6_cancel : Room := { frames := 5, cells := 0, slots := 0, locals := 116 }
def g_X6_cancel_20 (p : Nat → Int32)  (w : Nat → Int32) (er : Nat → Int32) (fl : Nat → Int32) (me : Nat → Int32) (pr : Nat → Int32) (pv : Nat → Int32) (W8 : Nat → Nat → Int32) (E8 : Nat → Nat → Int32) (F8 : Nat → Nat → Int32) (M8 : Nat → Nat → Int32) (P8 : Nat → Nat → Int32) (R8 : Nat → Nat → Int32) : Option (Int32 × (Nat → Int32) × (Nat → Int32) × (Nat → Int32) × (Nat → Int32) × (Nat → Int32) × (Nat → Int32) × (Nat → Nat → Int32) × (Nat → Nat → Int32) × (Nat → Nat → Int32) × (Nat → Nat → Int32) × (Nat → Nat → Int32) × (Nat → Nat → Int32)) :=
  some ((-2), w, er, fl, me, pr, pv, W8, E8, F8, M8, P8, R8)
def g_X6_cancel (w : Nat → Int32) (er : Nat → Int32) (fl : Nat → Int32) (me : Nat → Int32) (p : Nat → Int32) (pr : Nat → Int32) (pv : Nat → Int32) (W8 : Nat → Nat → Int32) (E8 : Nat → Nat → Int32) (F8 : Nat → Nat → Int32) (M8 : Nat → Nat → Int32) (P8 : Nat → Nat → Int32) (R8 : Nat → Nat → Int32)  : Option (Int32 × (Nat → Int32) × (Nat → Int32) × (Nat → Int32) × (Nat → Int32) × (Nat → Int32) × (Nat → Int32) × (Nat → Nat → Int32) × (Nat → Nat → Int32) × (Nat → Nat → Int32) × (Nat → Nat → Int32) × (Nat → Nat → Int32) × (Nat → Nat → Int32)) :=
  (if (pr 0) = 0 then g_X6_cancel_20 p w er fl me pr pv W8 E8 F8 M8 P8 R8 else (g_X5_endsWithTicket w me).bind fun o14 => (if o14 = 0 then g_X6_cancel_20 p w er fl me pr pv W8 E8 F8 M8 P8 R8 else (g_X4_remember pv W8 E8 F8 M8 P8 R8 w er fl me p pr).bind fun o31 => (g_X5_cancelLatest w er fl me pr).bind fun o38 => some (o38.1, o38.2.1, o38.2.2.1, o38.2.2.2.1, o38.2.2.2.2.1, o38.2.2.2.2.2, o31.1, o31.2.1, o31.2.2.1, o31.2.2.2.1, o31.2.2.2.2.1, o31.2.2.2.2.2.1, o31.2.2.2.2.2.2)))
set_option maxHeartbeats 4000000 in
set_option maxRecDepth 100000 in
theorem c_X6_cancel (Z : GZ) (l : Launch) (t : Nat) (tr0 : Nat) (hj : Nat) (hi : Nat) (a : Nat → Nat) (hq : Nat) (hs : Nat) (AD : Nat → Nat → Nat) (w : Nat → Int32) (er : Nat → Int32) (fl : Nat → Int32) (me : Nat → Int32) (p : Nat → Int32) (pr : Nat → Int32) (pv : Nat → Int32) (W8 : Nat → Nat → Int32) (E8 : Nat → Nat → Int32) (F8 : Nat → Nat → Int32) (M8 : Nat → Nat → Int32) (P8 : Nat → Nat → Int32) (R8 : Nat → Nat → Int32)  (o : (Int32 × (Nat → Int32) × (Nat → Int32) × (Nat → Int32) × (Nat → Int32) × (Nat → Int32) × (Nat → Int32) × (Nat → Nat → Int32) × (Nat → Nat → Int32) × (Nat → Nat → Int32) × (Nat → Nat → Int32) × (Nat → Nat → Int32) × (Nat → Nat → Int32))) (hg : g_X6_cancel w er fl me p pr pv W8 E8 F8 M8 P8 R8 = some o) : Con Z l yX6_cancel cX6_cancel 1 (some .int) rm_X6_cancel [.ref t] (wT Z t (a 0) tr0 hj hq hi ++ (wP Z a w er fl me p pr ++ (wQ Z hq hs AD pv W8 E8 F8 M8 P8 R8))) (some (.int o.1)) (wT Z t (a 0) tr0 hj hq hi ++ (wP Z a o.2.1 o.2.2.1 o.2.2.2.1 o.2.2.2.2.1 p o.2.2.2.2.2.1 ++ (wQ Z hq hs AD o.2.2.2.2.2.2.1 o.2.2.2.2.2.2.2.1 o.2.2.2.2.2.2.2.2.1 o.2.2.2.2.2.2.2.2.2.1 o.2.2.2.2.2.2.2.2.2.2.1 o.2.2.2.2.2.2.2.2.2.2.2.1 o.2.2.2.2.2.2.2.2.2.2.2.2))) := by
  refine Con.of (by decide) (Nat.le_of_ble_eq_true rfl) ?_
  intro X hE0
  have hE : ∀ z, z = o → endsX X Z (some .int) (some (.int z.1)) (wT Z t (a 0) tr0 hj hq hi ++ (wP Z a z.2.1 z.2.2.1 z.2.2.2.1 z.2.2.2.2.1 p z.2.2.2.2.2.1 ++ (wQ Z hq hs AD z.2.2.2.2.2.2.1 z.2.2.2.2.2.2.2.1 z.2.2.2.2.2.2.2.2.1 z.2.2.2.2.2.2.2.2.2.1 z.2.2.2.2.2.2.2.2.2.2.1 z.2.2.2.2.2.2.2.2.2.2.2.1 z.2.2.2.2.2.2.2.2.2.2.2.2))) := by
    rintro _ rfl; exact hE0
  have J20 : ∀ (w : Nat → Int32) (er : Nat → Int32) (fl : Nat → Int32) (me : Nat → Int32) (pr : Nat → Int32) (pv : Nat → Int32) (W8 : Nat → Nat → Int32) (E8 : Nat → Nat → Int32) (F8 : Nat → Nat → Int32) (M8 : Nat → Nat → Int32) (P8 : Nat → Nat → Int32) (R8 : Nat → Nat → Int32), g_X6_cancel_20 p w er fl me pr pv W8 E8 F8 M8 P8 R8 = some o → AtK X Z rm_X6_cancel cX6_cancel RX6 1 0 0 (wT Z t (a 0) tr0 hj hq hi ++ (wP Z a w er fl me p pr ++ (wQ Z hq hs AD pv W8 E8 F8 M8 P8 R8))) 20 [] [] := by
    intro w er fl me pr pv W8 E8 F8 M8 P8 R8 hg
    unfold g_X6_cancel_20 at hg
    refine r_bipush (v := (-2)) dX6_cancel_20 kbp_m2 ?_
    exact r_iret (hE _ (Option.some.inj hg)) dX6_cancel_22
  unfold g_X6_cancel at hg
  show AtK X Z rm_X6_cancel cX6_cancel RX6 1 0 0 (wT Z t (a 0) tr0 hj hq hi ++ (wP Z a w er fl me p pr ++ (wQ Z hq hs AD pv W8 E8 F8 M8 P8 R8))) 0 [(0, .ref t)] []
  refine r_aload_n dX6_cancel_0 0 rfl ?_
  refine gf_X6_0 (v := .ref (a 0)) 0 rfl rfl qw_175 dX6_cancel_1 ?_
  refine gfN_X5_3 (v := .int (pr 0)) 1 rfl rfl qw_102 dX6_cancel_4 ?_
  refine r_if_eq (tgt := 20) dX6_cancel_7 (by decide) (fun h7 => ?_) (fun h7 => ?_)
  · replace hg := (if_pos h7).symm.trans hg
    exact r_sub [] rfl (J20 w er fl me pr pv W8 E8 F8 M8 P8 R8 hg)
  · replace hg := (if_neg h7).symm.trans hg
    refine r_aload_n dX6_cancel_10 0 rfl ?_
    refine gf_X6_0 (v := .ref (a 0)) 0 rfl rfl qw_175 dX6_cancel_11 ?_
    obtain ⟨o14, e14, hg⟩ := ob hg
    refine r_callV (As := []) (rest := []) (ws' := wT Z t (a 0) tr0 hj hq hi ++ (wP Z a w er fl me p pr ++ (wQ Z hq hs AD pv W8 E8 F8 M8 P8 R8))) 0 rfl rfl rfl (fun l => c_X5_endsWithTicket Z l a w er fl me p pr  o14 e14) qw_312 mv_X5_endsWithTicket (xPk.idx [1, 2, 3, 4, 5, 6] rfl rfl rfl rfl rfl) ⟨Nat.le_of_ble_eq_true rfl, Nat.le_of_ble_eq_true rfl⟩ ⟨rfl, rfl⟩ ⟨Nat.zero_le _, Nat.zero_le _⟩ rfl (Nat.le_of_ble_eq_true rfl) rfl dX6_cancel_14 ?_
    refine r_if_ne (tgt := 23) dX6_cancel_17 (by decide) (fun h17 => ?_) (fun h17 => ?_)
    · replace hg := (if_neg h17).symm.trans hg
      refine r_aload_n dX6_cancel_23 0 rfl ?_
      refine gf_X6_3 (v := .ref hq) 0 rfl rfl qw_178 dX6_cancel_24 ?_
      refine r_aload_n dX6_cancel_27 0 rfl ?_
      refine gf_X6_0 (v := .ref (a 0)) 0 rfl rfl qw_175 dX6_cancel_28 ?_
      obtain ⟨o31, e31, hg⟩ := ob hg
      refine r_callV (As := [.ref (a 0)]) (rest := []) (ws' := wT Z t (a 0) tr0 hj hq hi ++ (wP Z a w er fl me p pr ++ (wQ Z hq hs AD o31.1 o31.2.1 o31.2.2.1 o31.2.2.2.1 o31.2.2.2.2.1 o31.2.2.2.2.2.1 o31.2.2.2.2.2.2))) 0 rfl rfl rfl (fun l => c_X4_rememberQ Z l hq hs AD a pv W8 E8 F8 M8 P8 R8 w er fl me p pr  o31 e31) qw_232 mv_X4_remember (xPk.seg2r (wT Z t (a 0) tr0 hj hq hi) (wP Z a w er fl me p pr) (wP Z a w er fl me p pr) (([] : va_W)) (wQ Z hq hs AD pv W8 E8 F8 M8 P8 R8) (wQ Z hq hs AD o31.1 o31.2.1 o31.2.2.1 o31.2.2.2.1 o31.2.2.2.2.1 o31.2.2.2.2.2.1 o31.2.2.2.2.2.2) (([] : va_W)) (by simp only [List.append_assoc, List.append_nil, List.nil_append]) (by simp only [List.append_assoc, List.append_nil, List.nil_append]) rfl wQ_dom) ⟨Nat.le_of_ble_eq_true rfl, Nat.le_of_ble_eq_true rfl⟩ ⟨rfl, rfl⟩ ⟨Nat.zero_le _, Nat.zero_le _⟩ rfl (Nat.le_of_ble_eq_true rfl) rfl dX6_cancel_31 ?_
      refine r_aload_n dX6_cancel_34 0 rfl ?_
      refine gf_X6_0 (v := .ref (a 0)) 0 rfl rfl qw_175 dX6_cancel_35 ?_
      obtain ⟨o38, e38, hg⟩ := ob hg
      refine r_callV (As := []) (rest := []) (ws' := wT Z t (a 0) tr0 hj hq hi ++ (wP Z a o38.2.1 o38.2.2.1 o38.2.2.2.1 o38.2.2.2.2.1 p o38.2.2.2.2.2 ++ (wQ Z hq hs AD o31.1 o31.2.1 o31.2.2.1 o31.2.2.2.1 o31.2.2.2.2.1 o31.2.2.2.2.2.1 o31.2.2.2.2.2.2))) 0 rfl rfl rfl (fun l => c_X5_cancelLatest Z l a w er fl me p pr  o38 e38) qw_331 mv_X5_cancelLatest (xPk.idx [1, 2, 3, 4, 5, 6] rfl rfl rfl rfl rfl) ⟨Nat.le_of_ble_eq_true rfl, Nat.le_of_ble_eq_true rfl⟩ ⟨rfl, rfl⟩ ⟨Nat.zero_le _, Nat.zero_le _⟩ rfl (Nat.le_of_ble_eq_true rfl) rfl dX6_cancel_38 ?_
      exact r_iret (hE _ (Option.some.inj hg)) dX6_cancel_41
    · replace hg := (if_pos h17).symm.trans hg
      exact r_sub [] rfl (J20 w er fl me pr pv W8 E8 F8 M8 P8 R8 hg)

-- TicketJournal.close()I
abbrev rm_X6_close : Room := { frames := 5, cells := 0, slots := 0, locals := 116 }
def g_X6_close (w : Nat → Int32) (er : Nat → Int32) (fl : Nat → Int32) (me : Nat → Int32) (p : Nat → Int32) (pr : Nat → Int32) (pv : Nat → Int32) (W8 : Nat → Nat → Int32) (E8 : Nat → Nat → Int32) (F8 : Nat → Nat → Int32) (M8 : Nat → Nat → Int32) (P8 : Nat → Nat → Int32) (R8 : Nat → Nat → Int32)  : Option (Int32 × (Nat → Int32) × (Nat → Int32) × (Nat → Int32) × (Nat → Int32) × (Nat → Int32) × (Nat → Int32) × (Nat → Nat → Int32) × (Nat → Nat → Int32) × (Nat → Nat → Int32) × (Nat → Nat → Int32) × (Nat → Nat → Int32) × (Nat → Nat → Int32)) :=
  (if (pr 0) = 0 then some ((-2), w, er, fl, me, pr, pv, W8, E8, F8, M8, P8, R8) else (g_X4_remember pv W8 E8 F8 M8 P8 R8 w er fl me p pr).bind fun o21 => (g_X5_closeDay w er fl me pr).bind fun o28 => some (o28.1, o28.2.1, o28.2.2.1, o28.2.2.2.1, o28.2.2.2.2.1, o28.2.2.2.2.2, o21.1, o21.2.1, o21.2.2.1, o21.2.2.2.1, o21.2.2.2.2.1, o21.2.2.2.2.2.1, o21.2.2.2.2.2.2))
set_option maxHeartbeats 4000000 in
set_option maxRecDepth 100000 in
theorem c_X6_close (Z : GZ) (l : Launch) (t : Nat) (tr0 : Nat) (hj : Nat) (hi : Nat) (a : Nat → Nat) (hq : Nat) (hs : Nat) (AD : Nat → Nat → Nat) (w : Nat → Int32) (er : Nat → Int32) (fl : Nat → Int32) (me : Nat → Int32) (p : Nat → Int32) (pr : Nat → Int32) (pv : Nat → Int32) (W8 : Nat → Nat → Int32) (E8 : Nat → Nat → Int32) (F8 : Nat → Nat → Int32) (M8 : Nat → Nat → Int32) (P8 : Nat → Nat → Int32) (R8 : Nat → Nat → Int32)  (o : (Int32 × (Nat → Int32) × (Nat → Int32) × (Nat → Int32) × (Nat → Int32) × (Nat → Int32) × (Nat → Int32) × (Nat → Nat → Int32) × (Nat → Nat → Int32) × (Nat → Nat → Int32) × (Nat → Nat → Int32) × (Nat → Nat → Int32) × (Nat → Nat → Int32))) (hg : g_X6_close w er fl me p pr pv W8 E8 F8 M8 P8 R8 = some o) : Con Z l yX6_close cX6_close 1 (some .int) rm_X6_close [.ref t] (wT Z t (a 0) tr0 hj hq hi ++ (wP Z a w er fl me p pr ++ (wQ Z hq hs AD pv W8 E8 F8 M8 P8 R8))) (some (.int o.1)) (wT Z t (a 0) tr0 hj hq hi ++ (wP Z a o.2.1 o.2.2.1 o.2.2.2.1 o.2.2.2.2.1 p o.2.2.2.2.2.1 ++ (wQ Z hq hs AD o.2.2.2.2.2.2.1 o.2.2.2.2.2.2.2.1 o.2.2.2.2.2.2.2.2.1 o.2.2.2.2.2.2.2.2.2.1 o.2.2.2.2.2.2.2.2.2.2.1 o.2.2.2.2.2.2.2.2.2.2.2.1 o.2.2.2.2.2.2.2.2.2.2.2.2))) := by
  refine Con.of (by decide) (Nat.le_of_ble_eq_true rfl) ?_
  intro X hE0
  have hE : ∀ z, z = o → endsX X Z (some .int) (some (.int z.1)) (wT Z t (a 0) tr0 hj hq hi ++ (wP Z a z.2.1 z.2.2.1 z.2.2.2.1 z.2.2.2.2.1 p z.2.2.2.2.2.1 ++ (wQ Z hq hs AD z.2.2.2.2.2.2.1 z.2.2.2.2.2.2.2.1 z.2.2.2.2.2.2.2.2.1 z.2.2.2.2.2.2.2.2.2.1 z.2.2.2.2.2.2.2.2.2.2.1 z.2.2.2.2.2.2.2.2.2.2.2.1 z.2.2.2.2.2.2.2.2.2.2.2.2))) := by
    rintro _ rfl; exact hE0
  unfold g_X6_close at hg
  show AtK X Z rm_X6_close cX6_close RX6 1 0 0 (wT Z t (a 0) tr0 hj hq hi ++ (wP Z a w er fl me p pr ++ (wQ Z hq hs AD pv W8 E8 F8 M8 P8 R8))) 0 [(0, .ref t)] []
  refine r_aload_n dX6_close_0 0 rfl ?_
  refine gf_X6_0 (v := .ref (a 0)) 0 rfl rfl qw_175 dX6_close_1 ?_
  refine gfN_X5_3 (v := .int (pr 0)) 1 rfl rfl qw_102 dX6_close_4 ?_
  refine r_if_ne (tgt := 13) dX6_close_7 (by decide) (fun h7 => ?_) (fun h7 => ?_)
  · replace hg := (if_neg h7).symm.trans hg
    refine r_aload_n dX6_close_13 0 rfl ?_
    refine gf_X6_3 (v := .ref hq) 0 rfl rfl qw_178 dX6_close_14 ?_
    refine r_aload_n dX6_close_17 0 rfl ?_
    refine gf_X6_0 (v := .ref (a 0)) 0 rfl rfl qw_175 dX6_close_18 ?_
    obtain ⟨o21, e21, hg⟩ := ob hg
    refine r_callV (As := [.ref (a 0)]) (rest := []) (ws' := wT Z t (a 0) tr0 hj hq hi ++ (wP Z a w er fl me p pr ++ (wQ Z hq hs AD o21.1 o21.2.1 o21.2.2.1 o21.2.2.2.1 o21.2.2.2.2.1 o21.2.2.2.2.2.1 o21.2.2.2.2.2.2))) 0 rfl rfl rfl (fun l => c_X4_rememberQ Z l hq hs AD a pv W8 E8 F8 M8 P8 R8 w er fl me p pr  o21 e21) qw_232 mv_X4_remember (xPk.seg2r (wT Z t (a 0) tr0 hj hq hi) (wP Z a w er fl me p pr) (wP Z a w er fl me p pr) (([] : va_W)) (wQ Z hq hs AD pv W8 E8 F8 M8 P8 R8) (wQ Z hq hs AD o21.1 o21.2.1 o21.2.2.1 o21.2.2.2.1 o21.2.2.2.2.1 o21.2.2.2.2.2.1 o21.2.2.2.2.2.2) (([] : va_W)) (by simp only [List.append_assoc, List.append_nil, List.nil_append]) (by simp only [List.append_assoc, List.append_nil, List.nil_append]) rfl wQ_dom) ⟨Nat.le_of_ble_eq_true rfl, Nat.le_of_ble_eq_true rfl⟩ ⟨rfl, rfl⟩ ⟨Nat.zero_le _, Nat.zero_le _⟩ rfl (Nat.le_of_ble_eq_true rfl) rfl dX6_close_21 ?_
    refine r_aload_n dX6_close_24 0 rfl ?_
    refine gf_X6_0 (v := .ref (a 0)) 0 rfl rfl qw_175 dX6_close_25 ?_
    obtain ⟨o28, e28, hg⟩ := ob hg
    refine r_callV (As := []) (rest := []) (ws' := wT Z t (a 0) tr0 hj hq hi ++ (wP Z a o28.2.1 o28.2.2.1 o28.2.2.2.1 o28.2.2.2.2.1 p o28.2.2.2.2.2 ++ (wQ Z hq hs AD o21.1 o21.2.1 o21.2.2.1 o21.2.2.2.1 o21.2.2.2.2.1 o21.2.2.2.2.2.1 o21.2.2.2.2.2.2))) 0 rfl rfl rfl (fun l => c_X5_closeDay Z l a w er fl me p pr  o28 e28) qw_339 mv_X5_closeDay (xPk.idx [1, 2, 3, 4, 5, 6] rfl rfl rfl rfl rfl) ⟨Nat.le_of_ble_eq_true rfl, Nat.le_of_ble_eq_true rfl⟩ ⟨rfl, rfl⟩ ⟨Nat.zero_le _, Nat.zero_le _⟩ rfl (Nat.le_of_ble_eq_true rfl) rfl dX6_close_28 ?_
    exact r_iret (hE _ (Option.some.inj hg)) dX6_close_31
  · replace hg := (if_pos h7).symm.trans hg
    refine r_bipush (v := (-2)) dX6_close_10 kbp_m2 ?_
    exact r_iret (hE _ (Option.some.inj hg)) dX6_close_12

-- TicketJournal.load(II)I
abbrev rm_X6_load : Room := { frames := 5, cells := 0, slots := 0, locals := 118 }
def g_X6_load_20 (p : Nat → Int32)  (w : Nat → Int32) (er : Nat → Int32) (fl : Nat → Int32) (me : Nat → Int32) (pr : Nat → Int32) (pv : Nat → Int32) (W8 : Nat → Nat → Int32) (E8 : Nat → Nat → Int32) (F8 : Nat → Nat → Int32) (M8 : Nat → Nat → Int32) (P8 : Nat → Nat → Int32) (R8 : Nat → Nat → Int32) : Option (Int32 × (Nat → Int32) × (Nat → Int32) × (Nat → Int32) × (Nat → Int32) × (Nat → Int32) × (Nat → Int32) × (Nat → Nat → Int32) × (Nat → Nat → Int32) × (Nat → Nat → Int32) × (Nat → Nat → Int32) × (Nat → Nat → Int32) × (Nat → Nat → Int32)) :=
  some ((-1), w, er, fl, me, pr, pv, W8, E8, F8, M8, P8, R8)
def g_X6_load (w : Nat → Int32) (er : Nat → Int32) (fl : Nat → Int32) (me : Nat → Int32) (p : Nat → Int32) (pr : Nat → Int32) (pv : Nat → Int32) (W8 : Nat → Nat → Int32) (E8 : Nat → Nat → Int32) (F8 : Nat → Nat → Int32) (M8 : Nat → Nat → Int32) (P8 : Nat → Nat → Int32) (R8 : Nat → Nat → Int32) (n1 : Int32) (n2 : Int32) : Option (Int32 × (Nat → Int32) × (Nat → Int32) × (Nat → Int32) × (Nat → Int32) × (Nat → Int32) × (Nat → Int32) × (Nat → Nat → Int32) × (Nat → Nat → Int32) × (Nat → Nat → Int32) × (Nat → Nat → Int32) × (Nat → Nat → Int32) × (Nat → Nat → Int32)) :=
  (g_X6_isWithin n1 0 50000).bind fun o4 => (if o4 = 0 then g_X6_load_20 p w er fl me pr pv W8 E8 F8 M8 P8 R8 else (g_X6_isWithin n2 0 50000).bind fun o14 => (if o14 = 0 then g_X6_load_20 p w er fl me pr pv W8 E8 F8 M8 P8 R8 else (if (pr 0) = 0 then some ((-2), w, er, fl, me, pr, pv, W8, E8, F8, M8, P8, R8) else (g_X4_remember pv W8 E8 F8 M8 P8 R8 w er fl me p pr).bind fun o43 => (g_X5_putInPaper w er fl me pr n1 n2).bind fun o52 => some (o52.1, o52.2.1, o52.2.2.1, o52.2.2.2.1, o52.2.2.2.2.1, o52.2.2.2.2.2, o43.1, o43.2.1, o43.2.2.1, o43.2.2.2.1, o43.2.2.2.2.1, o43.2.2.2.2.2.1, o43.2.2.2.2.2.2))))
set_option maxHeartbeats 4000000 in
set_option maxRecDepth 100000 in
theorem c_X6_load (Z : GZ) (l : Launch) (t : Nat) (tr0 : Nat) (hj : Nat) (hi : Nat) (a : Nat → Nat) (hq : Nat) (hs : Nat) (AD : Nat → Nat → Nat) (w : Nat → Int32) (er : Nat → Int32) (fl : Nat → Int32) (me : Nat → Int32) (p : Nat → Int32) (pr : Nat → Int32) (pv : Nat → Int32) (W8 : Nat → Nat → Int32) (E8 : Nat → Nat → Int32) (F8 : Nat → Nat → Int32) (M8 : Nat → Nat → Int32) (P8 : Nat → Nat → Int32) (R8 : Nat → Nat → Int32) (n1 : Int32) (n2 : Int32) (o : (Int32 × (Nat → Int32) × (Nat → Int32) × (Nat → Int32) × (Nat → Int32) × (Nat → Int32) × (Nat → Int32) × (Nat → Nat → Int32) × (Nat → Nat → Int32) × (Nat → Nat → Int32) × (Nat → Nat → Int32) × (Nat → Nat → Int32) × (Nat → Nat → Int32))) (hg : g_X6_load w er fl me p pr pv W8 E8 F8 M8 P8 R8 n1 n2 = some o) : Con Z l yX6_load cX6_load 3 (some .int) rm_X6_load [.ref t, .int n1, .int n2] (wT Z t (a 0) tr0 hj hq hi ++ (wP Z a w er fl me p pr ++ (wQ Z hq hs AD pv W8 E8 F8 M8 P8 R8))) (some (.int o.1)) (wT Z t (a 0) tr0 hj hq hi ++ (wP Z a o.2.1 o.2.2.1 o.2.2.2.1 o.2.2.2.2.1 p o.2.2.2.2.2.1 ++ (wQ Z hq hs AD o.2.2.2.2.2.2.1 o.2.2.2.2.2.2.2.1 o.2.2.2.2.2.2.2.2.1 o.2.2.2.2.2.2.2.2.2.1 o.2.2.2.2.2.2.2.2.2.2.1 o.2.2.2.2.2.2.2.2.2.2.2.1 o.2.2.2.2.2.2.2.2.2.2.2.2))) := by
  refine Con.of (by decide) (Nat.le_of_ble_eq_true rfl) ?_
  intro X hE0
  have hE : ∀ z, z = o → endsX X Z (some .int) (some (.int z.1)) (wT Z t (a 0) tr0 hj hq hi ++ (wP Z a z.2.1 z.2.2.1 z.2.2.2.1 z.2.2.2.2.1 p z.2.2.2.2.2.1 ++ (wQ Z hq hs AD z.2.2.2.2.2.2.1 z.2.2.2.2.2.2.2.1 z.2.2.2.2.2.2.2.2.1 z.2.2.2.2.2.2.2.2.2.1 z.2.2.2.2.2.2.2.2.2.2.1 z.2.2.2.2.2.2.2.2.2.2.2.1 z.2.2.2.2.2.2.2.2.2.2.2.2))) := by
    rintro _ rfl; exact hE0
  have J20 : ∀ (w : Nat → Int32) (er : Nat → Int32) (fl : Nat → Int32) (me : Nat → Int32) (pr : Nat → Int32) (pv : Nat → Int32) (W8 : Nat → Nat → Int32) (E8 : Nat → Nat → Int32) (F8 : Nat → Nat → Int32) (M8 : Nat → Nat → Int32) (P8 : Nat → Nat → Int32) (R8 : Nat → Nat → Int32), g_X6_load_20 p w er fl me pr pv W8 E8 F8 M8 P8 R8 = some o → AtK X Z rm_X6_load cX6_load RX6 3 0 0 (wT Z t (a 0) tr0 hj hq hi ++ (wP Z a w er fl me p pr ++ (wQ Z hq hs AD pv W8 E8 F8 M8 P8 R8))) 20 [] [] := by
    intro w er fl me pr pv W8 E8 F8 M8 P8 R8 hg
    unfold g_X6_load_20 at hg
    refine r_iconst (v := (-1)) dX6_load_20 kic_m1 ?_
    exact r_iret (hE _ (Option.some.inj hg)) dX6_load_21
  unfold g_X6_load at hg
  show AtK X Z rm_X6_load cX6_load RX6 3 0 0 (wT Z t (a 0) tr0 hj hq hi ++ (wP Z a w er fl me p pr ++ (wQ Z hq hs AD pv W8 E8 F8 M8 P8 R8))) 0 [(0, .ref t), (1, .int n1), (2, .int n2)] []
  refine r_iload_n dX6_load_0 1 rfl ?_
  refine r_iconst (v := 0) dX6_load_1 kic_0 ?_
  refine r_ldc qw_347 dX6_load_2 ?_
  obtain ⟨o4, e4, hg⟩ := ob hg
  refine r_callS (As := [.int n1, .int 0, .int 50000]) (rest := []) (ws' := wT Z t (a 0) tr0 hj hq hi ++ (wP Z a w er fl me p pr ++ (wQ Z hq hs AD pv W8 E8 F8 M8 P8 R8))) (fun l => c_X6_isWithin Z l   n1 0 50000 o4 e4) qw_195 ms_X6_isWithin xPk.none ⟨Nat.le_of_ble_eq_true rfl, Nat.le_of_ble_eq_true rfl⟩ ⟨rfl, rfl⟩ ⟨Nat.zero_le _, Nat.zero_le _⟩ rfl (Nat.le_of_ble_eq_true rfl) rfl dX6_load_4 ?_
  refine r_if_eq (tgt := 20) dX6_load_7 (by decide) (fun h7 => ?_) (fun h7 => ?_)
  · replace hg := (if_pos h7).symm.trans hg
    exact r_sub [] rfl (J20 w er fl me pr pv W8 E8 F8 M8 P8 R8 hg)
  · replace hg := (if_neg h7).symm.trans hg
    refine r_iload_n dX6_load_10 2 rfl ?_
    refine r_iconst (v := 0) dX6_load_11 kic_0 ?_
    refine r_ldc qw_347 dX6_load_12 ?_
    obtain ⟨o14, e14, hg⟩ := ob hg
    refine r_callS (As := [.int n2, .int 0, .int 50000]) (rest := []) (ws' := wT Z t (a 0) tr0 hj hq hi ++ (wP Z a w er fl me p pr ++ (wQ Z hq hs AD pv W8 E8 F8 M8 P8 R8))) (fun l => c_X6_isWithin Z l   n2 0 50000 o14 e14) qw_195 ms_X6_isWithin xPk.none ⟨Nat.le_of_ble_eq_true rfl, Nat.le_of_ble_eq_true rfl⟩ ⟨rfl, rfl⟩ ⟨Nat.zero_le _, Nat.zero_le _⟩ rfl (Nat.le_of_ble_eq_true rfl) rfl dX6_load_14 ?_
    refine r_if_ne (tgt := 22) dX6_load_17 (by decide) (fun h17 => ?_) (fun h17 => ?_)
    · replace hg := (if_neg h17).symm.trans hg
      refine r_aload_n dX6_load_22 0 rfl ?_
      refine gf_X6_0 (v := .ref (a 0)) 0 rfl rfl qw_175 dX6_load_23 ?_
      refine gfN_X5_3 (v := .int (pr 0)) 1 rfl rfl qw_102 dX6_load_26 ?_
      refine r_if_ne (tgt := 35) dX6_load_29 (by decide) (fun h29 => ?_) (fun h29 => ?_)
      · replace hg := (if_neg h29).symm.trans hg
        refine r_aload_n dX6_load_35 0 rfl ?_
        refine gf_X6_3 (v := .ref hq) 0 rfl rfl qw_178 dX6_load_36 ?_
        refine r_aload_n dX6_load_39 0 rfl ?_
        refine gf_X6_0 (v := .ref (a 0)) 0 rfl rfl qw_175 dX6_load_40 ?_
        obtain ⟨o43, e43, hg⟩ := ob hg
        refine r_callV (As := [.ref (a 0)]) (rest := []) (ws' := wT Z t (a 0) tr0 hj hq hi ++ (wP Z a w er fl me p pr ++ (wQ Z hq hs AD o43.1 o43.2.1 o43.2.2.1 o43.2.2.2.1 o43.2.2.2.2.1 o43.2.2.2.2.2.1 o43.2.2.2.2.2.2))) 0 rfl rfl rfl (fun l => c_X4_rememberQ Z l hq hs AD a pv W8 E8 F8 M8 P8 R8 w er fl me p pr  o43 e43) qw_232 mv_X4_remember (xPk.seg2r (wT Z t (a 0) tr0 hj hq hi) (wP Z a w er fl me p pr) (wP Z a w er fl me p pr) (([] : va_W)) (wQ Z hq hs AD pv W8 E8 F8 M8 P8 R8) (wQ Z hq hs AD o43.1 o43.2.1 o43.2.2.1 o43.2.2.2.1 o43.2.2.2.2.1 o43.2.2.2.2.2.1 o43.2.2.2.2.2.2) (([] : va_W)) (by simp only [List.append_assoc, List.append_nil, List.nil_append]) (by simp only [List.append_assoc, List.append_nil, List.nil_append]) rfl wQ_dom) ⟨Nat.le_of_ble_eq_true rfl, Nat.le_of_ble_eq_true rfl⟩ ⟨rfl, rfl⟩ ⟨Nat.zero_le _, Nat.zero_le _⟩ rfl (Nat.le_of_ble_eq_true rfl) rfl dX6_load_43 ?_
        refine r_aload_n dX6_load_46 0 rfl ?_
        refine gf_X6_0 (v := .ref (a 0)) 0 rfl rfl qw_175 dX6_load_47 ?_
        refine r_iload_n dX6_load_50 1 rfl ?_
        refine r_iload_n dX6_load_51 2 rfl ?_
        obtain ⟨o52, e52, hg⟩ := ob hg
        refine r_callV (As := [.int n1, .int n2]) (rest := []) (ws' := wT Z t (a 0) tr0 hj hq hi ++ (wP Z a o52.2.1 o52.2.2.1 o52.2.2.2.1 o52.2.2.2.2.1 p o52.2.2.2.2.2 ++ (wQ Z hq hs AD o43.1 o43.2.1 o43.2.2.1 o43.2.2.2.1 o43.2.2.2.2.1 o43.2.2.2.2.2.1 o43.2.2.2.2.2.2))) 0 rfl rfl rfl (fun l => c_X5_putInPaper Z l a w er fl me p pr n1 n2 o52 e52) qw_348 mv_X5_putInPaper (xPk.idx [1, 2, 3, 4, 5, 6] rfl rfl rfl rfl rfl) ⟨Nat.le_of_ble_eq_true rfl, Nat.le_of_ble_eq_true rfl⟩ ⟨rfl, rfl⟩ ⟨Nat.zero_le _, Nat.zero_le _⟩ rfl (Nat.le_of_ble_eq_true rfl) rfl dX6_load_52 ?_
        exact r_iret (hE _ (Option.some.inj hg)) dX6_load_55
      · replace hg := (if_pos h29).symm.trans hg
        refine r_bipush (v := (-2)) dX6_load_32 kbp_m2 ?_
        exact r_iret (hE _ (Option.some.inj hg)) dX6_load_34
    · replace hg := (if_pos h17).symm.trans hg
      exact r_sub [] rfl (J20 w er fl me pr pv W8 E8 F8 M8 P8 R8 hg)

-- TicketJournal.setClock(I)I
abbrev rm_X6_setClock : Room := { frames := 5, cells := 0, slots := 0, locals := 117 }
def g_X6_setClock (w : Nat → Int32) (er : Nat → Int32) (fl : Nat → Int32) (me : Nat → Int32) (p : Nat → Int32) (pr : Nat → Int32) (pv : Nat → Int32) (W8 : Nat → Nat → Int32) (E8 : Nat → Nat → Int32) (F8 : Nat → Nat → Int32) (M8 : Nat → Nat → Int32) (P8 : Nat → Nat → Int32) (R8 : Nat → Nat → Int32) (n1 : Int32) : Option (Int32 × (Nat → Int32) × (Nat → Int32) × (Nat → Int32) × (Nat → Int32) × (Nat → Int32) × (Nat → Int32) × (Nat → Nat → Int32) × (Nat → Nat → Int32) × (Nat → Nat → Int32) × (Nat → Nat → Int32) × (Nat → Nat → Int32) × (Nat → Nat → Int32)) :=
  (g_X6_isWithin n1 0 60000).bind fun o4 => (if o4 = 0 then some ((-1), w, er, fl, me, pr, pv, W8, E8, F8, M8, P8, R8) else (if (pr 0) = 0 then some ((-2), w, er, fl, me, pr, pv, W8, E8, F8, M8, P8, R8) else (g_X4_remember pv W8 E8 F8 M8 P8 R8 w er fl me p pr).bind fun o33 => (g_X5_moveClock w er fl me pr n1).bind fun o41 => some (o41.1, o41.2.1, o41.2.2.1, o41.2.2.2.1, o41.2.2.2.2.1, o41.2.2.2.2.2, o33.1, o33.2.1, o33.2.2.1, o33.2.2.2.1, o33.2.2.2.2.1, o33.2.2.2.2.2.1, o33.2.2.2.2.2.2)))
set_option maxHeartbeats 4000000 in
set_option maxRecDepth 100000 in
theorem c_X6_setClock (Z : GZ) (l : Launch) (t : Nat) (tr0 : Nat) (hj : Nat) (hi : Nat) (a : Nat → Nat) (hq : Nat) (hs : Nat) (AD : Nat → Nat → Nat) (w : Nat → Int32) (er : Nat → Int32) (fl : Nat → Int32) (me : Nat → Int32) (p : Nat → Int32) (pr : Nat → Int32) (pv : Nat → Int32) (W8 : Nat → Nat → Int32) (E8 : Nat → Nat → Int32) (F8 : Nat → Nat → Int32) (M8 : Nat → Nat → Int32) (P8 : Nat → Nat → Int32) (R8 : Nat → Nat → Int32) (n1 : Int32) (o : (Int32 × (Nat → Int32) × (Nat → Int32) × (Nat → Int32) × (Nat → Int32) × (Nat → Int32) × (Nat → Int32) × (Nat → Nat → Int32) × (Nat → Nat → Int32) × (Nat → Nat → Int32) × (Nat → Nat → Int32) × (Nat → Nat → Int32) × (Nat → Nat → Int32))) (hg : g_X6_setClock w er fl me p pr pv W8 E8 F8 M8 P8 R8 n1 = some o) : Con Z l yX6_setClock cX6_setClock 2 (some .int) rm_X6_setClock [.ref t, .int n1] (wT Z t (a 0) tr0 hj hq hi ++ (wP Z a w er fl me p pr ++ (wQ Z hq hs AD pv W8 E8 F8 M8 P8 R8))) (some (.int o.1)) (wT Z t (a 0) tr0 hj hq hi ++ (wP Z a o.2.1 o.2.2.1 o.2.2.2.1 o.2.2.2.2.1 p o.2.2.2.2.2.1 ++ (wQ Z hq hs AD o.2.2.2.2.2.2.1 o.2.2.2.2.2.2.2.1 o.2.2.2.2.2.2.2.2.1 o.2.2.2.2.2.2.2.2.2.1 o.2.2.2.2.2.2.2.2.2.2.1 o.2.2.2.2.2.2.2.2.2.2.2.1 o.2.2.2.2.2.2.2.2.2.2.2.2))) := by
  refine Con.of (by decide) (Nat.le_of_ble_eq_true rfl) ?_
  intro X hE0
  have hE : ∀ z, z = o → endsX X Z (some .int) (some (.int z.1)) (wT Z t (a 0) tr0 hj hq hi ++ (wP Z a z.2.1 z.2.2.1 z.2.2.2.1 z.2.2.2.2.1 p z.2.2.2.2.2.1 ++ (wQ Z hq hs AD z.2.2.2.2.2.2.1 z.2.2.2.2.2.2.2.1 z.2.2.2.2.2.2.2.2.1 z.2.2.2.2.2.2.2.2.2.1 z.2.2.2.2.2.2.2.2.2.2.1 z.2.2.2.2.2.2.2.2.2.2.2.1 z.2.2.2.2.2.2.2.2.2.2.2.2))) := by
    rintro _ rfl; exact hE0
  unfold g_X6_setClock at hg
  show AtK X Z rm_X6_setClock cX6_setClock RX6 2 0 0 (wT Z t (a 0) tr0 hj hq hi ++ (wP Z a w er fl me p pr ++ (wQ Z hq hs AD pv W8 E8 F8 M8 P8 R8))) 0 [(0, .ref t), (1, .int n1)] []
  refine r_iload_n dX6_setClock_0 1 rfl ?_
  refine r_iconst (v := 0) dX6_setClock_1 kic_0 ?_
  refine r_ldc qw_357 dX6_setClock_2 ?_
  obtain ⟨o4, e4, hg⟩ := ob hg
  refine r_callS (As := [.int n1, .int 0, .int 60000]) (rest := []) (ws' := wT Z t (a 0) tr0 hj hq hi ++ (wP Z a w er fl me p pr ++ (wQ Z hq hs AD pv W8 E8 F8 M8 P8 R8))) (fun l => c_X6_isWithin Z l   n1 0 60000 o4 e4) qw_195 ms_X6_isWithin xPk.none ⟨Nat.le_of_ble_eq_true rfl, Nat.le_of_ble_eq_true rfl⟩ ⟨rfl, rfl⟩ ⟨Nat.zero_le _, Nat.zero_le _⟩ rfl (Nat.le_of_ble_eq_true rfl) rfl dX6_setClock_4 ?_
  refine r_if_ne (tgt := 12) dX6_setClock_7 (by decide) (fun h7 => ?_) (fun h7 => ?_)
  · replace hg := (if_neg h7).symm.trans hg
    refine r_aload_n dX6_setClock_12 0 rfl ?_
    refine gf_X6_0 (v := .ref (a 0)) 0 rfl rfl qw_175 dX6_setClock_13 ?_
    refine gfN_X5_3 (v := .int (pr 0)) 1 rfl rfl qw_102 dX6_setClock_16 ?_
    refine r_if_ne (tgt := 25) dX6_setClock_19 (by decide) (fun h19 => ?_) (fun h19 => ?_)
    · replace hg := (if_neg h19).symm.trans hg
      refine r_aload_n dX6_setClock_25 0 rfl ?_
      refine gf_X6_3 (v := .ref hq) 0 rfl rfl qw_178 dX6_setClock_26 ?_
      refine r_aload_n dX6_setClock_29 0 rfl ?_
      refine gf_X6_0 (v := .ref (a 0)) 0 rfl rfl qw_175 dX6_setClock_30 ?_
      obtain ⟨o33, e33, hg⟩ := ob hg
      refine r_callV (As := [.ref (a 0)]) (rest := []) (ws' := wT Z t (a 0) tr0 hj hq hi ++ (wP Z a w er fl me p pr ++ (wQ Z hq hs AD o33.1 o33.2.1 o33.2.2.1 o33.2.2.2.1 o33.2.2.2.2.1 o33.2.2.2.2.2.1 o33.2.2.2.2.2.2))) 0 rfl rfl rfl (fun l => c_X4_rememberQ Z l hq hs AD a pv W8 E8 F8 M8 P8 R8 w er fl me p pr  o33 e33) qw_232 mv_X4_remember (xPk.seg2r (wT Z t (a 0) tr0 hj hq hi) (wP Z a w er fl me p pr) (wP Z a w er fl me p pr) (([] : va_W)) (wQ Z hq hs AD pv W8 E8 F8 M8 P8 R8) (wQ Z hq hs AD o33.1 o33.2.1 o33.2.2.1 o33.2.2.2.1 o33.2.2.2.2.1 o33.2.2.2.2.2.1 o33.2.2.2.2.2.2) (([] : va_W)) (by simp only [List.append_assoc, List.append_nil, List.nil_append]) (by simp only [List.append_assoc, List.append_nil, List.nil_append]) rfl wQ_dom) ⟨Nat.le_of_ble_eq_true rfl, Nat.le_of_ble_eq_true rfl⟩ ⟨rfl, rfl⟩ ⟨Nat.zero_le _, Nat.zero_le _⟩ rfl (Nat.le_of_ble_eq_true rfl) rfl dX6_setClock_33 ?_
      refine r_aload_n dX6_setClock_36 0 rfl ?_
      refine gf_X6_0 (v := .ref (a 0)) 0 rfl rfl qw_175 dX6_setClock_37 ?_
      refine r_iload_n dX6_setClock_40 1 rfl ?_
      obtain ⟨o41, e41, hg⟩ := ob hg
      refine r_callV (As := [.int n1]) (rest := []) (ws' := wT Z t (a 0) tr0 hj hq hi ++ (wP Z a o41.2.1 o41.2.2.1 o41.2.2.2.1 o41.2.2.2.2.1 p o41.2.2.2.2.2 ++ (wQ Z hq hs AD o33.1 o33.2.1 o33.2.2.1 o33.2.2.2.1 o33.2.2.2.2.1 o33.2.2.2.2.2.1 o33.2.2.2.2.2.2))) 0 rfl rfl rfl (fun l => c_X5_moveClock Z l a w er fl me p pr n1 o41 e41) qw_358 mv_X5_moveClock (xPk.idx [1, 2, 3, 4, 5, 6] rfl rfl rfl rfl rfl) ⟨Nat.le_of_ble_eq_true rfl, Nat.le_of_ble_eq_true rfl⟩ ⟨rfl, rfl⟩ ⟨Nat.zero_le _, Nat.zero_le _⟩ rfl (Nat.le_of_ble_eq_true rfl) rfl dX6_setClock_41 ?_
      exact r_iret (hE _ (Option.some.inj hg)) dX6_setClock_44
    · replace hg := (if_pos h19).symm.trans hg
      refine r_bipush (v := (-2)) dX6_setClock_22 kbp_m2 ?_
      exact r_iret (hE _ (Option.some.inj hg)) dX6_setClock_24
  · replace hg := (if_pos h7).symm.trans hg
    refine r_iconst (v := (-1)) dX6_setClock_10 kic_m1 ?_
    exact r_iret (hE _ (Option.some.inj hg)) dX6_setClock_11

-- TicketJournal.pass(I)I
abbrev rm_X6_pass : Room := { frames := 4, cells := 0, slots := 0, locals := 104 }
def g_X6_pass (w : Nat → Int32) (er : Nat → Int32) (fl : Nat → Int32) (me : Nat → Int32) (p : Nat → Int32) (pr : Nat → Int32) (pv : Nat → Int32) (W8 : Nat → Nat → Int32) (E8 : Nat → Nat → Int32) (F8 : Nat → Nat → Int32) (M8 : Nat → Nat → Int32) (P8 : Nat → Nat → Int32) (R8 : Nat → Nat → Int32) (n1 : Int32) : Option (Int32 × (Nat → Int32) × (Nat → Int32) × (Nat → Nat → Int32) × (Nat → Nat → Int32) × (Nat → Nat → Int32) × (Nat → Nat → Int32) × (Nat → Nat → Int32) × (Nat → Nat → Int32)) :=
  (g_X6_isWithin n1 1 5000).bind fun o5 => (if o5 = 0 then some ((-1), pr, pv, W8, E8, F8, M8, P8, R8) else (g_X4_remember pv W8 E8 F8 M8 P8 R8 w er fl me p pr).bind fun o21 => some ((if 60000 < ((pr 1) + n1) then 60000 else ((pr 1) + n1)), (upd pr 1 (if 60000 < ((pr 1) + n1) then 60000 else ((pr 1) + n1))), o21.1, o21.2.1, o21.2.2.1, o21.2.2.2.1, o21.2.2.2.2.1, o21.2.2.2.2.2.1, o21.2.2.2.2.2.2))
set_option maxHeartbeats 4000000 in
set_option maxRecDepth 100000 in
theorem c_X6_pass (Z : GZ) (l : Launch) (t : Nat) (tr0 : Nat) (hj : Nat) (hi : Nat) (a : Nat → Nat) (hq : Nat) (hs : Nat) (AD : Nat → Nat → Nat) (w : Nat → Int32) (er : Nat → Int32) (fl : Nat → Int32) (me : Nat → Int32) (p : Nat → Int32) (pr : Nat → Int32) (pv : Nat → Int32) (W8 : Nat → Nat → Int32) (E8 : Nat → Nat → Int32) (F8 : Nat → Nat → Int32) (M8 : Nat → Nat → Int32) (P8 : Nat → Nat → Int32) (R8 : Nat → Nat → Int32) (n1 : Int32) (o : (Int32 × (Nat → Int32) × (Nat → Int32) × (Nat → Nat → Int32) × (Nat → Nat → Int32) × (Nat → Nat → Int32) × (Nat → Nat → Int32) × (Nat → Nat → Int32) × (Nat → Nat → Int32))) (hg : g_X6_pass w er fl me p pr pv W8 E8 F8 M8 P8 R8 n1 = some o) : Con Z l yX6_pass cX6_pass 2 (some .int) rm_X6_pass [.ref t, .int n1] (wT Z t (a 0) tr0 hj hq hi ++ (wP Z a w er fl me p pr ++ (wQ Z hq hs AD pv W8 E8 F8 M8 P8 R8))) (some (.int o.1)) (wT Z t (a 0) tr0 hj hq hi ++ (wP Z a w er fl me p o.2.1 ++ (wQ Z hq hs AD o.2.2.1 o.2.2.2.1 o.2.2.2.2.1 o.2.2.2.2.2.1 o.2.2.2.2.2.2.1 o.2.2.2.2.2.2.2.1 o.2.2.2.2.2.2.2.2))) := by
  refine Con.of (by decide) (Nat.le_of_ble_eq_true rfl) ?_
  intro X hE0
  have hE : ∀ z, z = o → endsX X Z (some .int) (some (.int z.1)) (wT Z t (a 0) tr0 hj hq hi ++ (wP Z a w er fl me p z.2.1 ++ (wQ Z hq hs AD z.2.2.1 z.2.2.2.1 z.2.2.2.2.1 z.2.2.2.2.2.1 z.2.2.2.2.2.2.1 z.2.2.2.2.2.2.2.1 z.2.2.2.2.2.2.2.2))) := by
    rintro _ rfl; exact hE0
  unfold g_X6_pass at hg
  show AtK X Z rm_X6_pass cX6_pass RX6 2 0 0 (wT Z t (a 0) tr0 hj hq hi ++ (wP Z a w er fl me p pr ++ (wQ Z hq hs AD pv W8 E8 F8 M8 P8 R8))) 0 [(0, .ref t), (1, .int n1)] []
  refine r_iload_n dX6_pass_0 1 rfl ?_
  refine r_iconst (v := 1) dX6_pass_1 kic_1 ?_
  refine r_sipush (v := 5000) dX6_pass_2 ksp_5000 ?_
  obtain ⟨o5, e5, hg⟩ := ob hg
  refine r_callS (As := [.int n1, .int 1, .int 5000]) (rest := []) (ws' := wT Z t (a 0) tr0 hj hq hi ++ (wP Z a w er fl me p pr ++ (wQ Z hq hs AD pv W8 E8 F8 M8 P8 R8))) (fun l => c_X6_isWithin Z l   n1 1 5000 o5 e5) qw_195 ms_X6_isWithin xPk.none ⟨Nat.le_of_ble_eq_true rfl, Nat.le_of_ble_eq_true rfl⟩ ⟨rfl, rfl⟩ ⟨Nat.zero_le _, Nat.zero_le _⟩ rfl (Nat.le_of_ble_eq_true rfl) rfl dX6_pass_5 ?_
  refine r_if_ne (tgt := 13) dX6_pass_8 (by decide) (fun h8 => ?_) (fun h8 => ?_)
  · replace hg := (if_neg h8).symm.trans hg
    refine r_aload_n dX6_pass_13 0 rfl ?_
    refine gf_X6_3 (v := .ref hq) 0 rfl rfl qw_178 dX6_pass_14 ?_
    refine r_aload_n dX6_pass_17 0 rfl ?_
    refine gf_X6_0 (v := .ref (a 0)) 0 rfl rfl qw_175 dX6_pass_18 ?_
    obtain ⟨o21, e21, hg⟩ := ob hg
    refine r_callV (As := [.ref (a 0)]) (rest := []) (ws' := wT Z t (a 0) tr0 hj hq hi ++ (wP Z a w er fl me p pr ++ (wQ Z hq hs AD o21.1 o21.2.1 o21.2.2.1 o21.2.2.2.1 o21.2.2.2.2.1 o21.2.2.2.2.2.1 o21.2.2.2.2.2.2))) 0 rfl rfl rfl (fun l => c_X4_rememberQ Z l hq hs AD a pv W8 E8 F8 M8 P8 R8 w er fl me p pr  o21 e21) qw_232 mv_X4_remember (xPk.seg2r (wT Z t (a 0) tr0 hj hq hi) (wP Z a w er fl me p pr) (wP Z a w er fl me p pr) (([] : va_W)) (wQ Z hq hs AD pv W8 E8 F8 M8 P8 R8) (wQ Z hq hs AD o21.1 o21.2.1 o21.2.2.1 o21.2.2.2.1 o21.2.2.2.2.1 o21.2.2.2.2.2.1 o21.2.2.2.2.2.2) (([] : va_W)) (by simp only [List.append_assoc, List.append_nil, List.nil_append]) (by simp only [List.append_assoc, List.append_nil, List.nil_append]) rfl wQ_dom) ⟨Nat.le_of_ble_eq_true rfl, Nat.le_of_ble_eq_true rfl⟩ ⟨rfl, rfl⟩ ⟨Nat.zero_le _, Nat.zero_le _⟩ rfl (Nat.le_of_ble_eq_true rfl) rfl dX6_pass_21 ?_
    refine r_aload_n dX6_pass_24 0 rfl ?_
    refine gf_X6_0 (v := .ref (a 0)) 0 rfl rfl qw_175 dX6_pass_25 ?_
    refine r_aload_n dX6_pass_28 0 rfl ?_
    refine gf_X6_0 (v := .ref (a 0)) 0 rfl rfl qw_175 dX6_pass_29 ?_
    refine gfN_X5_4 (v := .int (pr 1)) 1 rfl rfl qw_104 dX6_pass_32 ?_
    refine r_iload_n dX6_pass_35 1 rfl ?_
    refine r_iadd dX6_pass_36 ?_
    refine r_ldc qw_357 dX6_pass_37 ?_
    refine r_mmin qw_369 qw_370 qw_21 qw_371 (Nat.le_of_ble_eq_true rfl) (Nat.le_of_ble_eq_true rfl) (Nat.zero_le _) (Nat.zero_le _) dX6_pass_39 ?_
    refine pfN_X5_4 1 rfl (Nat.le_of_ble_eq_true rfl) qw_104 dX6_pass_42 (ws' := wT Z t (a 0) tr0 hj hq hi ++ (wP Z a w er fl me p (upd pr 1 (if 60000 < ((pr 1) + n1) then 60000 else ((pr 1) + n1))) ++ (wQ Z hq hs AD o21.1 o21.2.1 o21.2.2.1 o21.2.2.2.1 o21.2.2.2.2.1 o21.2.2.2.2.2.1 o21.2.2.2.2.2.2))) rfl ?_
    refine r_aload_n dX6_pass_45 0 rfl ?_
    refine gf_X6_0 (v := .ref (a 0)) 0 rfl rfl qw_175 dX6_pass_46 ?_
    refine gfN_X5_4 (v := .int (if 60000 < ((pr 1) + n1) then 60000 else ((pr 1) + n1))) 1 rfl rfl qw_104 dX6_pass_49 ?_
    exact r_iret (hE _ (Option.some.inj hg)) dX6_pass_52
  · replace hg := (if_pos h8).symm.trans hg
    refine r_iconst (v := (-1)) dX6_pass_11 kic_m1 ?_
    exact r_iret (hE _ (Option.some.inj hg)) dX6_pass_12

-- TicketJournal.setPrice(II)I
abbrev rm_X6_setPrice : Room := { frames := 4, cells := 0, slots := 0, locals := 104 }
def g_X6_setPrice_18 (w : Nat → Int32) (er : Nat → Int32) (fl : Nat → Int32) (me : Nat → Int32) (pr : Nat → Int32)  (p : Nat → Int32) (pv : Nat → Int32) (W8 : Nat → Nat → Int32) (E8 : Nat → Nat → Int32) (F8 : Nat → Nat → Int32) (M8 : Nat → Nat → Int32) (P8 : Nat → Nat → Int32) (R8 : Nat → Nat → Int32) : Option (Int32 × (Nat → Int32) × (Nat → Int32) × (Nat → Nat → Int32) × (Nat → Nat → Int32) × (Nat → Nat → Int32) × (Nat → Nat → Int32) × (Nat → Nat → Int32) × (Nat → Nat → Int32)) :=
  some ((-1), p, pv, W8, E8, F8, M8, P8, R8)
def g_X6_setPrice (w : Nat → Int32) (er : Nat → Int32) (fl : Nat → Int32) (me : Nat → Int32) (p : Nat → Int32) (pr : Nat → Int32) (pv : Nat → Int32) (W8 : Nat → Nat → Int32) (E8 : Nat → Nat → Int32) (F8 : Nat → Nat → Int32) (M8 : Nat → Nat → Int32) (P8 : Nat → Nat → Int32) (R8 : Nat → Nat → Int32) (n1 : Int32) (n2 : Int32) : Option (Int32 × (Nat → Int32) × (Nat → Int32) × (Nat → Nat → Int32) × (Nat → Nat → Int32) × (Nat → Nat → Int32) × (Nat → Nat → Int32) × (Nat → Nat → Int32) × (Nat → Nat → Int32)) :=
  (g_X6_isSort n1).bind fun o1 => (if o1 = 0 then g_X6_setPrice_18 w er fl me pr p pv W8 E8 F8 M8 P8 R8 else (g_X6_isWithin n2 1 999).bind fun o12 => (if o12 = 0 then g_X6_setPrice_18 w er fl me pr p pv W8 E8 F8 M8 P8 R8 else (g_X4_remember pv W8 E8 F8 M8 P8 R8 w er fl me p pr).bind fun o28 => (g_X5_priceOf p n1).bind fun o36 => (g_X5_changePrice p n1 n2).bind fun o46 => some (o36, o46, o28.1, o28.2.1, o28.2.2.1, o28.2.2.2.1, o28.2.2.2.2.1, o28.2.2.2.2.2.1, o28.2.2.2.2.2.2)))
set_option maxHeartbeats 4000000 in
set_option maxRecDepth 100000 in
theorem c_X6_setPrice (Z : GZ) (l : Launch) (t : Nat) (tr0 : Nat) (hj : Nat) (hi : Nat) (a : Nat → Nat) (hq : Nat) (hs : Nat) (AD : Nat → Nat → Nat) (w : Nat → Int32) (er : Nat → Int32) (fl : Nat → Int32) (me : Nat → Int32) (p : Nat → Int32) (pr : Nat → Int32) (pv : Nat → Int32) (W8 : Nat → Nat → Int32) (E8 : Nat → Nat → Int32) (F8 : Nat → Nat → Int32) (M8 : Nat → Nat → Int32) (P8 : Nat → Nat → Int32) (R8 : Nat → Nat → Int32) (n1 : Int32) (n2 : Int32) (o : (Int32 × (Nat → Int32) × (Nat → Int32) × (Nat → Nat → Int32) × (Nat → Nat → Int32) × (Nat → Nat → Int32) × (Nat → Nat → Int32) × (Nat → Nat → Int32) × (Nat → Nat → Int32))) (hg : g_X6_setPrice w er fl me p pr pv W8 E8 F8 M8 P8 R8 n1 n2 = some o) : Con Z l yX6_setPrice cX6_setPrice 4 (some .int) rm_X6_setPrice [.ref t, .int n1, .int n2] (wT Z t (a 0) tr0 hj hq hi ++ (wP Z a w er fl me p pr ++ (wQ Z hq hs AD pv W8 E8 F8 M8 P8 R8))) (some (.int o.1)) (wT Z t (a 0) tr0 hj hq hi ++ (wP Z a w er fl me o.2.1 pr ++ (wQ Z hq hs AD o.2.2.1 o.2.2.2.1 o.2.2.2.2.1 o.2.2.2.2.2.1 o.2.2.2.2.2.2.1 o.2.2.2.2.2.2.2.1 o.2.2.2.2.2.2.2.2))) := by
  refine Con.of (by decide) (Nat.le_of_ble_eq_true rfl) ?_
  intro X hE0
  have hE : ∀ z, z = o → endsX X Z (some .int) (some (.int z.1)) (wT Z t (a 0) tr0 hj hq hi ++ (wP Z a w er fl me z.2.1 pr ++ (wQ Z hq hs AD z.2.2.1 z.2.2.2.1 z.2.2.2.2.1 z.2.2.2.2.2.1 z.2.2.2.2.2.2.1 z.2.2.2.2.2.2.2.1 z.2.2.2.2.2.2.2.2))) := by
    rintro _ rfl; exact hE0
  have J18 : ∀ (p : Nat → Int32) (pv : Nat → Int32) (W8 : Nat → Nat → Int32) (E8 : Nat → Nat → Int32) (F8 : Nat → Nat → Int32) (M8 : Nat → Nat → Int32) (P8 : Nat → Nat → Int32) (R8 : Nat → Nat → Int32), g_X6_setPrice_18 w er fl me pr p pv W8 E8 F8 M8 P8 R8 = some o → AtK X Z rm_X6_setPrice cX6_setPrice RX6 4 0 0 (wT Z t (a 0) tr0 hj hq hi ++ (wP Z a w er fl me p pr ++ (wQ Z hq hs AD pv W8 E8 F8 M8 P8 R8))) 18 [] [] := by
    intro p pv W8 E8 F8 M8 P8 R8 hg
    unfold g_X6_setPrice_18 at hg
    refine r_iconst (v := (-1)) dX6_setPrice_18 kic_m1 ?_
    exact r_iret (hE _ (Option.some.inj hg)) dX6_setPrice_19
  unfold g_X6_setPrice at hg
  show AtK X Z rm_X6_setPrice cX6_setPrice RX6 4 0 0 (wT Z t (a 0) tr0 hj hq hi ++ (wP Z a w er fl me p pr ++ (wQ Z hq hs AD pv W8 E8 F8 M8 P8 R8))) 0 [(0, .ref t), (1, .int n1), (2, .int n2)] []
  refine r_iload_n dX6_setPrice_0 1 rfl ?_
  obtain ⟨o1, e1, hg⟩ := ob hg
  refine r_callS (As := [.int n1]) (rest := []) (ws' := wT Z t (a 0) tr0 hj hq hi ++ (wP Z a w er fl me p pr ++ (wQ Z hq hs AD pv W8 E8 F8 M8 P8 R8))) (fun l => c_X6_isSort Z l   n1 o1 e1) qw_376 ms_X6_isSort xPk.none ⟨Nat.le_of_ble_eq_true rfl, Nat.le_of_ble_eq_true rfl⟩ ⟨rfl, rfl⟩ ⟨Nat.zero_le _, Nat.zero_le _⟩ rfl (Nat.le_of_ble_eq_true rfl) rfl dX6_setPrice_1 ?_
  refine r_if_eq (tgt := 18) dX6_setPrice_4 (by decide) (fun h4 => ?_) (fun h4 => ?_)
  · replace hg := (if_pos h4).symm.trans hg
    exact r_sub [] rfl (J18 p pv W8 E8 F8 M8 P8 R8 hg)
  · replace hg := (if_neg h4).symm.trans hg
    refine r_iload_n dX6_setPrice_7 2 rfl ?_
    refine r_iconst (v := 1) dX6_setPrice_8 kic_1 ?_
    refine r_sipush (v := 999) dX6_setPrice_9 ksp_999 ?_
    obtain ⟨o12, e12, hg⟩ := ob hg
    refine r_callS (As := [.int n2, .int 1, .int 999]) (rest := []) (ws' := wT Z t (a 0) tr0 hj hq hi ++ (wP Z a w er fl me p pr ++ (wQ Z hq hs AD pv W8 E8 F8 M8 P8 R8))) (fun l => c_X6_isWithin Z l   n2 1 999 o12 e12) qw_195 ms_X6_isWithin xPk.none ⟨Nat.le_of_ble_eq_true rfl, Nat.le_of_ble_eq_true rfl⟩ ⟨rfl, rfl⟩ ⟨Nat.zero_le _, Nat.zero_le _⟩ rfl (Nat.le_of_ble_eq_true rfl) rfl dX6_setPrice_12 ?_
    refine r_if_ne (tgt := 20) dX6_setPrice_15 (by decide) (fun h15 => ?_) (fun h15 => ?_)
    · replace hg := (if_neg h15).symm.trans hg
      refine r_aload_n dX6_setPrice_20 0 rfl ?_
      refine gf_X6_3 (v := .ref hq) 0 rfl rfl qw_178 dX6_setPrice_21 ?_
      refine r_aload_n dX6_setPrice_24 0 rfl ?_
      refine gf_X6_0 (v := .ref (a 0)) 0 rfl rfl qw_175 dX6_setPrice_25 ?_
      obtain ⟨o28, e28, hg⟩ := ob hg
      refine r_callV (As := [.ref (a 0)]) (rest := []) (ws' := wT Z t (a 0) tr0 hj hq hi ++ (wP Z a w er fl me p pr ++ (wQ Z hq hs AD o28.1 o28.2.1 o28.2.2.1 o28.2.2.2.1 o28.2.2.2.2.1 o28.2.2.2.2.2.1 o28.2.2.2.2.2.2))) 0 rfl rfl rfl (fun l => c_X4_rememberQ Z l hq hs AD a pv W8 E8 F8 M8 P8 R8 w er fl me p pr  o28 e28) qw_232 mv_X4_remember (xPk.seg2r (wT Z t (a 0) tr0 hj hq hi) (wP Z a w er fl me p pr) (wP Z a w er fl me p pr) (([] : va_W)) (wQ Z hq hs AD pv W8 E8 F8 M8 P8 R8) (wQ Z hq hs AD o28.1 o28.2.1 o28.2.2.1 o28.2.2.2.1 o28.2.2.2.2.1 o28.2.2.2.2.2.1 o28.2.2.2.2.2.2) (([] : va_W)) (by simp only [List.append_assoc, List.append_nil, List.nil_append]) (by simp only [List.append_assoc, List.append_nil, List.nil_append]) rfl wQ_dom) ⟨Nat.le_of_ble_eq_true rfl, Nat.le_of_ble_eq_true rfl⟩ ⟨rfl, rfl⟩ ⟨Nat.zero_le _, Nat.zero_le _⟩ rfl (Nat.le_of_ble_eq_true rfl) rfl dX6_setPrice_28 ?_
      refine r_aload_n dX6_setPrice_31 0 rfl ?_
      refine gf_X6_0 (v := .ref (a 0)) 0 rfl rfl qw_175 dX6_setPrice_32 ?_
      refine r_iload_n dX6_setPrice_35 1 rfl ?_
      obtain ⟨o36, e36, hg⟩ := ob hg
      refine r_callV (As := [.int n1]) (rest := []) (ws' := wT Z t (a 0) tr0 hj hq hi ++ (wP Z a w er fl me p pr ++ (wQ Z hq hs AD o28.1 o28.2.1 o28.2.2.1 o28.2.2.2.1 o28.2.2.2.2.1 o28.2.2.2.2.2.1 o28.2.2.2.2.2.2))) 0 rfl rfl rfl (fun l => c_X5_priceOf Z l a w er fl me p pr n1 o36 e36) qw_377 mv_X5_priceOf (xPk.idx [1, 2, 3, 4, 5, 6] rfl rfl rfl rfl rfl) ⟨Nat.le_of_ble_eq_true rfl, Nat.le_of_ble_eq_true rfl⟩ ⟨rfl, rfl⟩ ⟨Nat.zero_le _, Nat.zero_le _⟩ rfl (Nat.le_of_ble_eq_true rfl) rfl dX6_setPrice_36 ?_
      refine r_istore_n (lv' := [(3, .int o36), (0, .ref t), (1, .int n1), (2, .int n2)]) dX6_setPrice_39 (by decide) rfl ?_
      refine r_aload_n dX6_setPrice_40 1 rfl ?_
      refine gf_X6_0 (v := .ref (a 0)) 0 rfl rfl qw_175 dX6_setPrice_41 ?_
      refine r_iload_n dX6_setPrice_44 2 rfl ?_
      refine r_iload_n dX6_setPrice_45 3 rfl ?_
      obtain ⟨o46, e46, hg⟩ := ob hg
      refine r_callV (As := [.int n1, .int n2]) (rest := []) (ws' := wT Z t (a 0) tr0 hj hq hi ++ (wP Z a w er fl me o46 pr ++ (wQ Z hq hs AD o28.1 o28.2.1 o28.2.2.1 o28.2.2.2.1 o28.2.2.2.2.1 o28.2.2.2.2.2.1 o28.2.2.2.2.2.2))) 0 rfl rfl rfl (fun l => c_X5_changePrice Z l a w er fl me p pr n1 n2 o46 e46) qw_378 mv_X5_changePrice (xPk.idx [1, 2, 3, 4, 5, 6] rfl rfl rfl rfl rfl) ⟨Nat.le_of_ble_eq_true rfl, Nat.le_of_ble_eq_true rfl⟩ ⟨rfl, rfl⟩ ⟨Nat.zero_le _, Nat.zero_le _⟩ rfl (Nat.le_of_ble_eq_true rfl) rfl dX6_setPrice_46 ?_
      refine r_iload_n dX6_setPrice_49 0 rfl ?_
      exact r_iret (hE _ (Option.some.inj hg)) dX6_setPrice_50
    · replace hg := (if_pos h15).symm.trans hg
      exact r_sub [] rfl (J18 p pv W8 E8 F8 M8 P8 R8 hg)

-- TicketJournal.cut(I)I
abbrev rm_X6_cut : Room := { frames := 4, cells := 0, slots := 0, locals := 104 }
def g_X6_cut_51 (w : Nat → Int32) (er : Nat → Int32) (me : Nat → Int32) (p : Nat → Int32) (pr : Nat → Int32)  (x2 : Int32) (t1 : Int32) (fl : Nat → Int32) (pv : Nat → Int32) (W8 : Nat → Nat → Int32) (E8 : Nat → Nat → Int32) (F8 : Nat → Nat → Int32) (M8 : Nat → Nat → Int32) (P8 : Nat → Nat → Int32) (R8 : Nat → Nat → Int32) : Option (Int32 × (Nat → Int32) × (Nat → Int32) × (Nat → Nat → Int32) × (Nat → Nat → Int32) × (Nat → Nat → Int32) × (Nat → Nat → Int32) × (Nat → Nat → Int32) × (Nat → Nat → Int32)) :=
  some (x2, (upd fl 1 t1), pv, W8, E8, F8, M8, P8, R8)
def g_X6_cut (w : Nat → Int32) (er : Nat → Int32) (fl : Nat → Int32) (me : Nat → Int32) (p : Nat → Int32) (pr : Nat → Int32) (pv : Nat → Int32) (W8 : Nat → Nat → Int32) (E8 : Nat → Nat → Int32) (F8 : Nat → Nat → Int32) (M8 : Nat → Nat → Int32) (P8 : Nat → Nat → Int32) (R8 : Nat → Nat → Int32) (n1 : Int32) : Option (Int32 × (Nat → Int32) × (Nat → Int32) × (Nat → Nat → Int32) × (Nat → Nat → Int32) × (Nat → Nat → Int32) × (Nat → Nat → Int32) × (Nat → Nat → Int32) × (Nat → Nat → Int32)) :=
  (g_X6_isWithin n1 (-1) 100).bind fun o4 => (if o4 = 0 then some ((-1), fl, pv, W8, E8, F8, M8, P8, R8) else (g_X4_remember pv W8 E8 F8 M8 P8 R8 w er fl me p pr).bind fun o20 => (if 0 ≤ n1 then g_X6_cut_51 w er me p pr (fl 1) n1 fl o20.1 o20.2.1 o20.2.2.1 o20.2.2.2.1 o20.2.2.2.2.1 o20.2.2.2.2.2.1 o20.2.2.2.2.2.2 else g_X6_cut_51 w er me p pr (fl 1) (-9) fl o20.1 o20.2.1 o20.2.2.1 o20.2.2.2.1 o20.2.2.2.2.1 o20.2.2.2.2.2.1 o20.2.2.2.2.2.2))
set_option maxHeartbeats 4000000 in
set_option maxRecDepth 100000 in
theorem c_X6_cut (Z : GZ) (l : Launch) (t : Nat) (tr0 : Nat) (hj : Nat) (hi : Nat) (a : Nat → Nat) (hq : Nat) (hs : Nat) (AD : Nat → Nat → Nat) (w : Nat → Int32) (er : Nat → Int32) (fl : Nat → Int32) (me : Nat → Int32) (p : Nat → Int32) (pr : Nat → Int32) (pv : Nat → Int32) (W8 : Nat → Nat → Int32) (E8 : Nat → Nat → Int32) (F8 : Nat → Nat → Int32) (M8 : Nat → Nat → Int32) (P8 : Nat → Nat → Int32) (R8 : Nat → Nat → Int32) (n1 : Int32) (o : (Int32 × (Nat → Int32) × (Nat → Int32) × (Nat → Nat → Int32) × (Nat → Nat → Int32) × (Nat → Nat → Int32) × (Nat → Nat → Int32) × (Nat → Nat → Int32) × (Nat → Nat → Int32))) (hg : g_X6_cut w er fl me p pr pv W8 E8 F8 M8 P8 R8 n1 = some o) : Con Z l yX6_cut cX6_cut 3 (some .int) rm_X6_cut [.ref t, .int n1] (wT Z t (a 0) tr0 hj hq hi ++ (wP Z a w er fl me p pr ++ (wQ Z hq hs AD pv W8 E8 F8 M8 P8 R8))) (some (.int o.1)) (wT Z t (a 0) tr0 hj hq hi ++ (wP Z a w er o.2.1 me p pr ++ (wQ Z hq hs AD o.2.2.1 o.2.2.2.1 o.2.2.2.2.1 o.2.2.2.2.2.1 o.2.2.2.2.2.2.1 o.2.2.2.2.2.2.2.1 o.2.2.2.2.2.2.2.2))) := by
  refine Con.of (by decide) (Nat.le_of_ble_eq_true rfl) ?_
  intro X hE0
  have hE : ∀ z, z = o → endsX X Z (some .int) (some (.int z.1)) (wT Z t (a 0) tr0 hj hq hi ++ (wP Z a w er z.2.1 me p pr ++ (wQ Z hq hs AD z.2.2.1 z.2.2.2.1 z.2.2.2.2.1 z.2.2.2.2.2.1 z.2.2.2.2.2.2.1 z.2.2.2.2.2.2.2.1 z.2.2.2.2.2.2.2.2))) := by
    rintro _ rfl; exact hE0
  have J51 : ∀ (x2 : Int32) (t1 : Int32) (fl : Nat → Int32) (pv : Nat → Int32) (W8 : Nat → Nat → Int32) (E8 : Nat → Nat → Int32) (F8 : Nat → Nat → Int32) (M8 : Nat → Nat → Int32) (P8 : Nat → Nat → Int32) (R8 : Nat → Nat → Int32), g_X6_cut_51 w er me p pr x2 t1 fl pv W8 E8 F8 M8 P8 R8 = some o → AtK X Z rm_X6_cut cX6_cut RX6 3 0 0 (wT Z t (a 0) tr0 hj hq hi ++ (wP Z a w er fl me p pr ++ (wQ Z hq hs AD pv W8 E8 F8 M8 P8 R8))) 51 [(2, .int x2)] [.int t1, .ref (a 1)] := by
    intro x2 t1 fl pv W8 E8 F8 M8 P8 R8 hg
    unfold g_X6_cut_51 at hg
    refine pfN_X0_3 2 rfl (Nat.le_of_ble_eq_true rfl) qw_48 dX6_cut_51 (ws' := wT Z t (a 0) tr0 hj hq hi ++ (wP Z a w er (upd fl 1 t1) me p pr ++ (wQ Z hq hs AD pv W8 E8 F8 M8 P8 R8))) rfl ?_
    refine r_iload_n dX6_cut_54 0 rfl ?_
    exact r_iret (hE _ (Option.some.inj hg)) dX6_cut_55
  unfold g_X6_cut at hg
  show AtK X Z rm_X6_cut cX6_cut RX6 3 0 0 (wT Z t (a 0) tr0 hj hq hi ++ (wP Z a w er fl me p pr ++ (wQ Z hq hs AD pv W8 E8 F8 M8 P8 R8))) 0 [(0, .ref t), (1, .int n1)] []
  refine r_iload_n dX6_cut_0 1 rfl ?_
  refine r_iconst (v := (-1)) dX6_cut_1 kic_m1 ?_
  refine r_bipush (v := 100) dX6_cut_2 kbp_100 ?_
  obtain ⟨o4, e4, hg⟩ := ob hg
  refine r_callS (As := [.int n1, .int (-1), .int 100]) (rest := []) (ws' := wT Z t (a 0) tr0 hj hq hi ++ (wP Z a w er fl me p pr ++ (wQ Z hq hs AD pv W8 E8 F8 M8 P8 R8))) (fun l => c_X6_isWithin Z l   n1 (-1) 100 o4 e4) qw_195 ms_X6_isWithin xPk.none ⟨Nat.le_of_ble_eq_true rfl, Nat.le_of_ble_eq_true rfl⟩ ⟨rfl, rfl⟩ ⟨Nat.zero_le _, Nat.zero_le _⟩ rfl (Nat.le_of_ble_eq_true rfl) rfl dX6_cut_4 ?_
  refine r_if_ne (tgt := 12) dX6_cut_7 (by decide) (fun h7 => ?_) (fun h7 => ?_)
  · replace hg := (if_neg h7).symm.trans hg
    refine r_aload_n dX6_cut_12 0 rfl ?_
    refine gf_X6_3 (v := .ref hq) 0 rfl rfl qw_178 dX6_cut_13 ?_
    refine r_aload_n dX6_cut_16 0 rfl ?_
    refine gf_X6_0 (v := .ref (a 0)) 0 rfl rfl qw_175 dX6_cut_17 ?_
    obtain ⟨o20, e20, hg⟩ := ob hg
    refine r_callV (As := [.ref (a 0)]) (rest := []) (ws' := wT Z t (a 0) tr0 hj hq hi ++ (wP Z a w er fl me p pr ++ (wQ Z hq hs AD o20.1 o20.2.1 o20.2.2.1 o20.2.2.2.1 o20.2.2.2.2.1 o20.2.2.2.2.2.1 o20.2.2.2.2.2.2))) 0 rfl rfl rfl (fun l => c_X4_rememberQ Z l hq hs AD a pv W8 E8 F8 M8 P8 R8 w er fl me p pr  o20 e20) qw_232 mv_X4_remember (xPk.seg2r (wT Z t (a 0) tr0 hj hq hi) (wP Z a w er fl me p pr) (wP Z a w er fl me p pr) (([] : va_W)) (wQ Z hq hs AD pv W8 E8 F8 M8 P8 R8) (wQ Z hq hs AD o20.1 o20.2.1 o20.2.2.1 o20.2.2.2.1 o20.2.2.2.2.1 o20.2.2.2.2.2.1 o20.2.2.2.2.2.2) (([] : va_W)) (by simp only [List.append_assoc, List.append_nil, List.nil_append]) (by simp only [List.append_assoc, List.append_nil, List.nil_append]) rfl wQ_dom) ⟨Nat.le_of_ble_eq_true rfl, Nat.le_of_ble_eq_true rfl⟩ ⟨rfl, rfl⟩ ⟨Nat.zero_le _, Nat.zero_le _⟩ rfl (Nat.le_of_ble_eq_true rfl) rfl dX6_cut_20 ?_
    refine r_aload_n dX6_cut_23 0 rfl ?_
    refine gf_X6_0 (v := .ref (a 0)) 0 rfl rfl qw_175 dX6_cut_24 ?_
    refine gfN_X5_0 (v := .ref (a 1)) 1 rfl rfl qw_97 dX6_cut_27 ?_
    refine gfN_X0_3 (v := .int (fl 1)) 2 rfl rfl qw_48 dX6_cut_30 ?_
    refine r_istore_n (lv' := [(2, .int (fl 1)), (0, .ref t), (1, .int n1)]) dX6_cut_33 (by decide) rfl ?_
    refine r_aload_n dX6_cut_34 1 rfl ?_
    refine gf_X6_0 (v := .ref (a 0)) 0 rfl rfl qw_175 dX6_cut_35 ?_
    refine gfN_X5_0 (v := .ref (a 1)) 1 rfl rfl qw_97 dX6_cut_38 ?_
    refine r_iload_n dX6_cut_41 2 rfl ?_
    refine r_if_ge (tgt := 50) dX6_cut_42 (by decide) (fun h42 => ?_) (fun h42 => ?_)
    · replace hg := (if_pos h42).symm.trans hg
      refine r_iload_n dX6_cut_50 2 rfl ?_
      exact r_sub [0] rfl (J51 (fl 1) n1 fl o20.1 o20.2.1 o20.2.2.1 o20.2.2.2.1 o20.2.2.2.2.1 o20.2.2.2.2.2.1 o20.2.2.2.2.2.2 hg)
    · replace hg := (if_neg h42).symm.trans hg
      refine r_bipush (v := (-9)) dX6_cut_45 kbp_m9 ?_
      refine r_goto (tgt := 51) dX6_cut_47 (by decide) ?_
      exact r_sub [0] rfl (J51 (fl 1) (-9) fl o20.1 o20.2.1 o20.2.2.1 o20.2.2.2.1 o20.2.2.2.2.1 o20.2.2.2.2.2.1 o20.2.2.2.2.2.2 hg)
  · replace hg := (if_pos h7).symm.trans hg
    refine r_iconst (v := (-1)) dX6_cut_10 kic_m1 ?_
    exact r_iret (hE _ (Option.some.inj hg)) dX6_cut_11

-- TicketJournal.off()I
abbrev rm_X6_off : Room := { frames := 6, cells := 0, slots := 0, locals := 139 }
def g_X6_off (w : Nat → Int32) (er : Nat → Int32) (fl : Nat → Int32) (me : Nat → Int32) (p : Nat → Int32) (pr : Nat → Int32) (pv : Nat → Int32) (W8 : Nat → Nat → Int32) (E8 : Nat → Nat → Int32) (F8 : Nat → Nat → Int32) (M8 : Nat → Nat → Int32) (P8 : Nat → Nat → Int32) (R8 : Nat → Nat → Int32)  : Option (Int32 × (Nat → Int32) × (Nat → Int32) × (Nat → Int32) × (Nat → Nat → Int32) × (Nat → Nat → Int32) × (Nat → Nat → Int32) × (Nat → Nat → Int32) × (Nat → Nat → Int32) × (Nat → Nat → Int32)) :=
  (if (pr 0) = 0 then some ((-2), me, pr, pv, W8, E8, F8, M8, P8, R8) else (g_X4_remember pv W8 E8 F8 M8 P8 R8 w er fl me p pr).bind fun o21 => (g_X5_losePower me pr).bind fun o28 => (g_X0_tally w 1).bind fun o39 => some (o39, o28.1, o28.2, o21.1, o21.2.1, o21.2.2.1, o21.2.2.2.1, o21.2.2.2.2.1, o21.2.2.2.2.2.1, o21.2.2.2.2.2.2))
set_option maxHeartbeats 4000000 in
set_option maxRecDepth 100000 in
theorem c_X6_off (Z : GZ) (l : Launch) (t : Nat) (tr0 : Nat) (hj : Nat) (hi : Nat) (a : Nat → Nat) (hq : Nat) (hs : Nat) (AD : Nat → Nat → Nat) (w : Nat → Int32) (er : Nat → Int32) (fl : Nat → Int32) (me : Nat → Int32) (p : Nat → Int32) (pr : Nat → Int32) (pv : Nat → Int32) (W8 : Nat → Nat → Int32) (E8 : Nat → Nat → Int32) (F8 : Nat → Nat → Int32) (M8 : Nat → Nat → Int32) (P8 : Nat → Nat → Int32) (R8 : Nat → Nat → Int32)  (o : (Int32 × (Nat → Int32) × (Nat → Int32) × (Nat → Int32) × (Nat → Nat → Int32) × (Nat → Nat → Int32) × (Nat → Nat → Int32) × (Nat → Nat → Int32) × (Nat → Nat → Int32) × (Nat → Nat → Int32))) (hg : g_X6_off w er fl me p pr pv W8 E8 F8 M8 P8 R8 = some o) : Con Z l yX6_off cX6_off 1 (some .int) rm_X6_off [.ref t] (wT Z t (a 0) tr0 hj hq hi ++ (wP Z a w er fl me p pr ++ (wQ Z hq hs AD pv W8 E8 F8 M8 P8 R8))) (some (.int o.1)) (wT Z t (a 0) tr0 hj hq hi ++ (wP Z a w er fl o.2.1 p o.2.2.1 ++ (wQ Z hq hs AD o.2.2.2.1 o.2.2.2.2.1 o.2.2.2.2.2.1 o.2.2.2.2.2.2.1 o.2.2.2.2.2.2.2.1 o.2.2.2.2.2.2.2.2.1 o.2.2.2.2.2.2.2.2.2))) := by
  refine Con.of (by decide) (Nat.le_of_ble_eq_true rfl) ?_
  intro X hE0
  have hE : ∀ z, z = o → endsX X Z (some .int) (some (.int z.1)) (wT Z t (a 0) tr0 hj hq hi ++ (wP Z a w er fl z.2.1 p z.2.2.1 ++ (wQ Z hq hs AD z.2.2.2.1 z.2.2.2.2.1 z.2.2.2.2.2.1 z.2.2.2.2.2.2.1 z.2.2.2.2.2.2.2.1 z.2.2.2.2.2.2.2.2.1 z.2.2.2.2.2.2.2.2.2))) := by
    rintro _ rfl; exact hE0
  unfold g_X6_off at hg
  show AtK X Z rm_X6_off cX6_off RX6 1 0 0 (wT Z t (a 0) tr0 hj hq hi ++ (wP Z a w er fl me p pr ++ (wQ Z hq hs AD pv W8 E8 F8 M8 P8 R8))) 0 [(0, .ref t)] []
  refine r_aload_n dX6_off_0 0 rfl ?_
  refine gf_X6_0 (v := .ref (a 0)) 0 rfl rfl qw_175 dX6_off_1 ?_
  refine gfN_X5_3 (v := .int (pr 0)) 1 rfl rfl qw_102 dX6_off_4 ?_
  refine r_if_ne (tgt := 13) dX6_off_7 (by decide) (fun h7 => ?_) (fun h7 => ?_)
  · replace hg := (if_neg h7).symm.trans hg
    refine r_aload_n dX6_off_13 0 rfl ?_
    refine gf_X6_3 (v := .ref hq) 0 rfl rfl qw_178 dX6_off_14 ?_
    refine r_aload_n dX6_off_17 0 rfl ?_
    refine gf_X6_0 (v := .ref (a 0)) 0 rfl rfl qw_175 dX6_off_18 ?_
    obtain ⟨o21, e21, hg⟩ := ob hg
    refine r_callV (As := [.ref (a 0)]) (rest := []) (ws' := wT Z t (a 0) tr0 hj hq hi ++ (wP Z a w er fl me p pr ++ (wQ Z hq hs AD o21.1 o21.2.1 o21.2.2.1 o21.2.2.2.1 o21.2.2.2.2.1 o21.2.2.2.2.2.1 o21.2.2.2.2.2.2))) 0 rfl rfl rfl (fun l => c_X4_rememberQ Z l hq hs AD a pv W8 E8 F8 M8 P8 R8 w er fl me p pr  o21 e21) qw_232 mv_X4_remember (xPk.seg2r (wT Z t (a 0) tr0 hj hq hi) (wP Z a w er fl me p pr) (wP Z a w er fl me p pr) (([] : va_W)) (wQ Z hq hs AD pv W8 E8 F8 M8 P8 R8) (wQ Z hq hs AD o21.1 o21.2.1 o21.2.2.1 o21.2.2.2.1 o21.2.2.2.2.1 o21.2.2.2.2.2.1 o21.2.2.2.2.2.2) (([] : va_W)) (by simp only [List.append_assoc, List.append_nil, List.nil_append]) (by simp only [List.append_assoc, List.append_nil, List.nil_append]) rfl wQ_dom) ⟨Nat.le_of_ble_eq_true rfl, Nat.le_of_ble_eq_true rfl⟩ ⟨rfl, rfl⟩ ⟨Nat.zero_le _, Nat.zero_le _⟩ rfl (Nat.le_of_ble_eq_true rfl) rfl dX6_off_21 ?_
    refine r_aload_n dX6_off_24 0 rfl ?_
    refine gf_X6_0 (v := .ref (a 0)) 0 rfl rfl qw_175 dX6_off_25 ?_
    obtain ⟨o28, e28, hg⟩ := ob hg
    refine r_callV (As := []) (rest := []) (ws' := wT Z t (a 0) tr0 hj hq hi ++ (wP Z a w er fl o28.1 p o28.2 ++ (wQ Z hq hs AD o21.1 o21.2.1 o21.2.2.1 o21.2.2.2.1 o21.2.2.2.2.1 o21.2.2.2.2.2.1 o21.2.2.2.2.2.2))) 0 rfl rfl rfl (fun l => c_X5_losePower Z l a w er fl me p pr  o28 e28) qw_390 mv_X5_losePower (xPk.idx [1, 2, 3, 4, 5, 6] rfl rfl rfl rfl rfl) ⟨Nat.le_of_ble_eq_true rfl, Nat.le_of_ble_eq_true rfl⟩ ⟨rfl, rfl⟩ ⟨Nat.zero_le _, Nat.zero_le _⟩ rfl (Nat.le_of_ble_eq_true rfl) rfl dX6_off_28 ?_
    refine r_aload_n dX6_off_31 0 rfl ?_
    refine gf_X6_0 (v := .ref (a 0)) 0 rfl rfl qw_175 dX6_off_32 ?_
    refine gfN_X5_0 (v := .ref (a 1)) 1 rfl rfl qw_97 dX6_off_35 ?_
    refine r_iconst (v := 1) dX6_off_38 kic_1 ?_
    obtain ⟨o39, e39, hg⟩ := ob hg
    refine r_callV (As := [.int 1]) (rest := []) (ws' := wT Z t (a 0) tr0 hj hq hi ++ (wP Z a w er fl o28.1 p o28.2 ++ (wQ Z hq hs AD o21.1 o21.2.1 o21.2.2.1 o21.2.2.2.1 o21.2.2.2.2.1 o21.2.2.2.2.2.1 o21.2.2.2.2.2.2))) 0 rfl rfl rfl (fun l => c_X0_tally Z l (a 1) (a 2) (a 3) w er fl 1 o39 e39) qw_391 mv_X0_tally (xPk.idx [2, 3, 4] rfl rfl rfl rfl rfl) ⟨Nat.le_of_ble_eq_true rfl, Nat.le_of_ble_eq_true rfl⟩ ⟨rfl, rfl⟩ ⟨Nat.zero_le _, Nat.zero_le _⟩ rfl (Nat.le_of_ble_eq_true rfl) rfl dX6_off_39 ?_
    exact r_iret (hE _ (Option.some.inj hg)) dX6_off_42
  · replace hg := (if_pos h7).symm.trans hg
    refine r_bipush (v := (-2)) dX6_off_10 kbp_m2 ?_
    exact r_iret (hE _ (Option.some.inj hg)) dX6_off_12

-- TicketJournal.start()I
abbrev rm_X6_start : Room := { frames := 6, cells := 0, slots := 0, locals := 134 }
def g_X6_start (w : Nat → Int32) (er : Nat → Int32) (fl : Nat → Int32) (me : Nat → Int32) (p : Nat → Int32) (pr : Nat → Int32) (pv : Nat → Int32) (W8 : Nat → Nat → Int32) (E8 : Nat → Nat → Int32) (F8 : Nat → Nat → Int32) (M8 : Nat → Nat → Int32) (P8 : Nat → Nat → Int32) (R8 : Nat → Nat → Int32)  : Option (Int32 × (Nat → Int32) × (Nat → Int32) × (Nat → Int32) × (Nat → Nat → Int32) × (Nat → Nat → Int32) × (Nat → Nat → Int32) × (Nat → Nat → Int32) × (Nat → Nat → Int32) × (Nat → Nat → Int32)) :=
  (if (pr 0) = 0 then (g_X4_remember pv W8 E8 F8 M8 P8 R8 w er fl me p pr).bind fun o21 => (g_X5_wake w me pr).bind fun o28 => some ((o28.1 2), o28.1, o28.2, o21.1, o21.2.1, o21.2.2.1, o21.2.2.2.1, o21.2.2.2.2.1, o21.2.2.2.2.2.1, o21.2.2.2.2.2.2) else some ((-2), me, pr, pv, W8, E8, F8, M8, P8, R8))
set_option maxHeartbeats 4000000 in
set_option maxRecDepth 100000 in
theorem c_X6_start (Z : GZ) (l : Launch) (t : Nat) (tr0 : Nat) (hj : Nat) (hi : Nat) (a : Nat → Nat) (hq : Nat) (hs : Nat) (AD : Nat → Nat → Nat) (w : Nat → Int32) (er : Nat → Int32) (fl : Nat → Int32) (me : Nat → Int32) (p : Nat → Int32) (pr : Nat → Int32) (pv : Nat → Int32) (W8 : Nat → Nat → Int32) (E8 : Nat → Nat → Int32) (F8 : Nat → Nat → Int32) (M8 : Nat → Nat → Int32) (P8 : Nat → Nat → Int32) (R8 : Nat → Nat → Int32)  (o : (Int32 × (Nat → Int32) × (Nat → Int32) × (Nat → Int32) × (Nat → Nat → Int32) × (Nat → Nat → Int32) × (Nat → Nat → Int32) × (Nat → Nat → Int32) × (Nat → Nat → Int32) × (Nat → Nat → Int32))) (hg : g_X6_start w er fl me p pr pv W8 E8 F8 M8 P8 R8 = some o) : Con Z l yX6_start cX6_start 1 (some .int) rm_X6_start [.ref t] (wT Z t (a 0) tr0 hj hq hi ++ (wP Z a w er fl me p pr ++ (wQ Z hq hs AD pv W8 E8 F8 M8 P8 R8))) (some (.int o.1)) (wT Z t (a 0) tr0 hj hq hi ++ (wP Z a w er fl o.2.1 p o.2.2.1 ++ (wQ Z hq hs AD o.2.2.2.1 o.2.2.2.2.1 o.2.2.2.2.2.1 o.2.2.2.2.2.2.1 o.2.2.2.2.2.2.2.1 o.2.2.2.2.2.2.2.2.1 o.2.2.2.2.2.2.2.2.2))) := by
  refine Con.of (by decide) (Nat.le_of_ble_eq_true rfl) ?_
  intro X hE0
  have hE : ∀ z, z = o → endsX X Z (some .int) (some (.int z.1)) (wT Z t (a 0) tr0 hj hq hi ++ (wP Z a w er fl z.2.1 p z.2.2.1 ++ (wQ Z hq hs AD z.2.2.2.1 z.2.2.2.2.1 z.2.2.2.2.2.1 z.2.2.2.2.2.2.1 z.2.2.2.2.2.2.2.1 z.2.2.2.2.2.2.2.2.1 z.2.2.2.2.2.2.2.2.2))) := by
    rintro _ rfl; exact hE0
  unfold g_X6_start at hg
  show AtK X Z rm_X6_start cX6_start RX6 1 0 0 (wT Z t (a 0) tr0 hj hq hi ++ (wP Z a w er fl me p pr ++ (wQ Z hq hs AD pv W8 E8 F8 M8 P8 R8))) 0 [(0, .ref t)] []
  refine r_aload_n dX6_start_0 0 rfl ?_
  refine gf_X6_0 (v := .ref (a 0)) 0 rfl rfl qw_175 dX6_start_1 ?_
  refine gfN_X5_3 (v := .int (pr 0)) 1 rfl rfl qw_102 dX6_start_4 ?_
  refine r_if_eq (tgt := 13) dX6_start_7 (by decide) (fun h7 => ?_) (fun h7 => ?_)
  · replace hg := (if_pos h7).symm.trans hg
    refine r_aload_n dX6_start_13 0 rfl ?_
    refine gf_X6_3 (v := .ref hq) 0 rfl rfl qw_178 dX6_start_14 ?_
    refine r_aload_n dX6_start_17 0 rfl ?_
    refine gf_X6_0 (v := .ref (a 0)) 0 rfl rfl qw_175 dX6_start_18 ?_
    obtain ⟨o21, e21, hg⟩ := ob hg
    refine r_callV (As := [.ref (a 0)]) (rest := []) (ws' := wT Z t (a 0) tr0 hj hq hi ++ (wP Z a w er fl me p pr ++ (wQ Z hq hs AD o21.1 o21.2.1 o21.2.2.1 o21.2.2.2.1 o21.2.2.2.2.1 o21.2.2.2.2.2.1 o21.2.2.2.2.2.2))) 0 rfl rfl rfl (fun l => c_X4_rememberQ Z l hq hs AD a pv W8 E8 F8 M8 P8 R8 w er fl me p pr  o21 e21) qw_232 mv_X4_remember (xPk.seg2r (wT Z t (a 0) tr0 hj hq hi) (wP Z a w er fl me p pr) (wP Z a w er fl me p pr) (([] : va_W)) (wQ Z hq hs AD pv W8 E8 F8 M8 P8 R8) (wQ Z hq hs AD o21.1 o21.2.1 o21.2.2.1 o21.2.2.2.1 o21.2.2.2.2.1 o21.2.2.2.2.2.1 o21.2.2.2.2.2.2) (([] : va_W)) (by simp only [List.append_assoc, List.append_nil, List.nil_append]) (by simp only [List.append_assoc, List.append_nil, List.nil_append]) rfl wQ_dom) ⟨Nat.le_of_ble_eq_true rfl, Nat.le_of_ble_eq_true rfl⟩ ⟨rfl, rfl⟩ ⟨Nat.zero_le _, Nat.zero_le _⟩ rfl (Nat.le_of_ble_eq_true rfl) rfl dX6_start_21 ?_
    refine r_aload_n dX6_start_24 0 rfl ?_
    refine gf_X6_0 (v := .ref (a 0)) 0 rfl rfl qw_175 dX6_start_25 ?_
    obtain ⟨o28, e28, hg⟩ := ob hg
    refine r_callV (As := []) (rest := []) (ws' := wT Z t (a 0) tr0 hj hq hi ++ (wP Z a w er fl o28.1 p o28.2 ++ (wQ Z hq hs AD o21.1 o21.2.1 o21.2.2.1 o21.2.2.2.1 o21.2.2.2.2.1 o21.2.2.2.2.2.1 o21.2.2.2.2.2.2))) 0 rfl rfl rfl (fun l => c_X5_wake Z l a w er fl me p pr  o28 e28) qw_409 mv_X5_wake (xPk.idx [1, 2, 3, 4, 5, 6] rfl rfl rfl rfl rfl) ⟨Nat.le_of_ble_eq_true rfl, Nat.le_of_ble_eq_true rfl⟩ ⟨rfl, rfl⟩ ⟨Nat.zero_le _, Nat.zero_le _⟩ rfl (Nat.le_of_ble_eq_true rfl) rfl dX6_start_28 ?_
    refine r_aload_n dX6_start_31 0 rfl ?_
    refine gf_X6_0 (v := .ref (a 0)) 0 rfl rfl qw_175 dX6_start_32 ?_
    refine gfN_X5_1 (v := .ref (a 4)) 1 rfl rfl qw_99 dX6_start_35 ?_
    refine gfN_X3_2 (v := .int (o28.1 2)) 5 rfl rfl qw_73 dX6_start_38 ?_
    exact r_iret (hE _ (Option.some.inj hg)) dX6_start_41
  · replace hg := (if_neg h7).symm.trans hg
    refine r_bipush (v := (-2)) dX6_start_10 kbp_m2 ?_
    exact r_iret (hE _ (Option.some.inj hg)) dX6_start_12

-- TicketJournal.undo()I
abbrev rm_X6_undo : Room := { frames := 4, cells := 0, slots := 0, locals := 104 }
def g_X6_undo (w : Nat → Int32) (er : Nat → Int32) (fl : Nat → Int32) (me : Nat → Int32) (p : Nat → Int32) (pr : Nat → Int32) (pv : Nat → Int32) (W8 : Nat → Nat → Int32) (E8 : Nat → Nat → Int32) (F8 : Nat → Nat → Int32) (M8 : Nat → Nat → Int32) (P8 : Nat → Nat → Int32) (R8 : Nat → Nat → Int32)  : Option (Int32 × (Nat → Int32) × (Nat → Int32) × (Nat → Int32) × (Nat → Int32) × (Nat → Int32) × (Nat → Int32) × (Nat → Int32)) :=
  (if (pv 1) = 0 then some ((-2), w, er, fl, me, p, pr, pv) else (g_X4_restore w er fl me p pr pv W8 E8 F8 M8 P8 R8).bind fun o21 => some ((o21.2.2.2.2.2.2 1), o21.1, o21.2.1, o21.2.2.1, o21.2.2.2.1, o21.2.2.2.2.1, o21.2.2.2.2.2.1, o21.2.2.2.2.2.2))
set_option maxHeartbeats 4000000 in
set_option maxRecDepth 100000 in
theorem c_X6_undo (Z : GZ) (l : Launch) (t : Nat) (tr0 : Nat) (hj : Nat) (hi : Nat) (a : Nat → Nat) (hq : Nat) (hs : Nat) (AD : Nat → Nat → Nat) (w : Nat → Int32) (er : Nat → Int32) (fl : Nat → Int32) (me : Nat → Int32) (p : Nat → Int32) (pr : Nat → Int32) (pv : Nat → Int32) (W8 : Nat → Nat → Int32) (E8 : Nat → Nat → Int32) (F8 : Nat → Nat → Int32) (M8 : Nat → Nat → Int32) (P8 : Nat → Nat → Int32) (R8 : Nat → Nat → Int32)  (o : (Int32 × (Nat → Int32) × (Nat → Int32) × (Nat → Int32) × (Nat → Int32) × (Nat → Int32) × (Nat → Int32) × (Nat → Int32))) (hg : g_X6_undo w er fl me p pr pv W8 E8 F8 M8 P8 R8 = some o) : Con Z l yX6_undo cX6_undo 1 (some .int) rm_X6_undo [.ref t] (wT Z t (a 0) tr0 hj hq hi ++ (wP Z a w er fl me p pr ++ (wQ Z hq hs AD pv W8 E8 F8 M8 P8 R8))) (some (.int o.1)) (wT Z t (a 0) tr0 hj hq hi ++ (wP Z a o.2.1 o.2.2.1 o.2.2.2.1 o.2.2.2.2.1 o.2.2.2.2.2.1 o.2.2.2.2.2.2.1 ++ (wQ Z hq hs AD o.2.2.2.2.2.2.2 W8 E8 F8 M8 P8 R8))) := by
  refine Con.of (by decide) (Nat.le_of_ble_eq_true rfl) ?_
  intro X hE0
  have hE : ∀ z, z = o → endsX X Z (some .int) (some (.int z.1)) (wT Z t (a 0) tr0 hj hq hi ++ (wP Z a z.2.1 z.2.2.1 z.2.2.2.1 z.2.2.2.2.1 z.2.2.2.2.2.1 z.2.2.2.2.2.2.1 ++ (wQ Z hq hs AD z.2.2.2.2.2.2.2 W8 E8 F8 M8 P8 R8))) := by
    rintro _ rfl; exact hE0
  unfold g_X6_undo at hg
  show AtK X Z rm_X6_undo cX6_undo RX6 1 0 0 (wT Z t (a 0) tr0 hj hq hi ++ (wP Z a w er fl me p pr ++ (wQ Z hq hs AD pv W8 E8 F8 M8 P8 R8))) 0 [(0, .ref t)] []
  refine r_aload_n dX6_undo_0 0 rfl ?_
  refine gf_X6_3 (v := .ref hq) 0 rfl rfl qw_178 dX6_undo_1 ?_
  refine gfN_X4_2 (v := .int (pv 1)) 7 rfl rfl qw_149 dX6_undo_4 ?_
  refine r_if_ne (tgt := 13) dX6_undo_7 (by decide) (fun h7 => ?_) (fun h7 => ?_)
  · replace hg := (if_neg h7).symm.trans hg
    refine r_aload_n dX6_undo_13 0 rfl ?_
    refine gf_X6_3 (v := .ref hq) 0 rfl rfl qw_178 dX6_undo_14 ?_
    refine r_aload_n dX6_undo_17 0 rfl ?_
    refine gf_X6_0 (v := .ref (a 0)) 0 rfl rfl qw_175 dX6_undo_18 ?_
    obtain ⟨o21, e21, hg⟩ := ob hg
    refine r_callV (As := [.ref (a 0)]) (rest := []) (ws' := wT Z t (a 0) tr0 hj hq hi ++ (wP Z a o21.1 o21.2.1 o21.2.2.1 o21.2.2.2.1 o21.2.2.2.2.1 o21.2.2.2.2.2.1 ++ (wQ Z hq hs AD o21.2.2.2.2.2.2 W8 E8 F8 M8 P8 R8))) 6 rfl rfl rfl (fun l => c_X4_restoreQ Z l a hq hs AD w er fl me p pr pv W8 E8 F8 M8 P8 R8  o21 e21) qw_437 mv_X4_restore (xPk.seg2 (wT Z t (a 0) tr0 hj hq hi) (wP Z a w er fl me p pr) (wP Z a o21.1 o21.2.1 o21.2.2.1 o21.2.2.2.1 o21.2.2.2.2.1 o21.2.2.2.2.2.1) (([] : va_W)) (wQ Z hq hs AD pv W8 E8 F8 M8 P8 R8) (wQ Z hq hs AD o21.2.2.2.2.2.2 W8 E8 F8 M8 P8 R8) (([] : va_W)) (by simp only [List.append_assoc, List.append_nil, List.nil_append]) (by simp only [List.append_assoc, List.append_nil, List.nil_append]) rfl wQ_dom) ⟨Nat.le_of_ble_eq_true rfl, Nat.le_of_ble_eq_true rfl⟩ ⟨rfl, rfl⟩ ⟨Nat.zero_le _, Nat.zero_le _⟩ rfl (Nat.le_of_ble_eq_true rfl) rfl dX6_undo_21 ?_
    refine r_aload_n dX6_undo_24 0 rfl ?_
    refine gf_X6_3 (v := .ref hq) 0 rfl rfl qw_178 dX6_undo_25 ?_
    refine gfN_X4_2 (v := .int (o21.2.2.2.2.2.2 1)) 7 rfl rfl qw_149 dX6_undo_28 ?_
    exact r_iret (hE _ (Option.some.inj hg)) dX6_undo_31
  · replace hg := (if_pos h7).symm.trans hg
    refine r_bipush (v := (-2)) dX6_undo_10 kbp_m2 ?_
    exact r_iret (hE _ (Option.some.inj hg)) dX6_undo_12

-- TicketJournal.keep(I)I
abbrev rm_X6_keep : Room := { frames := 6, cells := 0, slots := 0, locals := 139 }
def g_X6_keep (w : Nat → Int32) (er : Nat → Int32) (fl : Nat → Int32) (me : Nat → Int32) (p : Nat → Int32) (pr : Nat → Int32) (fi : Nat → Nat → Int32) (WI : Nat → Nat → Int32) (EI : Nat → Nat → Int32) (FI : Nat → Nat → Int32) (MI : Nat → Nat → Int32) (PI : Nat → Nat → Int32) (RI : Nat → Nat → Int32) (n1 : Int32) : Option (Int32 × (Nat → Nat → Int32) × (Nat → Nat → Int32) × (Nat → Nat → Int32) × (Nat → Nat → Int32) × (Nat → Nat → Int32) × (Nat → Nat → Int32) × (Nat → Nat → Int32)) :=
  (g_X6_isImage n1).bind fun o2 => (if o2 = 0 then some ((-1), fi, WI, EI, FI, MI, PI, RI) else (if n1 = 0 then (g_X1_store (fi 0) (WI 0) (EI 0) (FI 0) (MI 0) (PI 0) (RI 0) w er fl me p pr).bind fun o20 => (g_X0_tally w 1).bind fun o31 => some (o31, (va_up fi 0 o20.1), (va_up WI 0 o20.2.1), (va_up EI 0 o20.2.2.1), (va_up FI 0 o20.2.2.2.1), (va_up MI 0 o20.2.2.2.2.1), (va_up PI 0 o20.2.2.2.2.2.1), (va_up RI 0 o20.2.2.2.2.2.2)) else (if n1 = 1 then (g_X1_store (fi 1) (WI 1) (EI 1) (FI 1) (MI 1) (PI 1) (RI 1) w er fl me p pr).bind fun o20 => (g_X0_tally w 1).bind fun o31 => some (o31, (va_up fi 1 o20.1), (va_up WI 1 o20.2.1), (va_up EI 1 o20.2.2.1), (va_up FI 1 o20.2.2.2.1), (va_up MI 1 o20.2.2.2.2.1), (va_up PI 1 o20.2.2.2.2.2.1), (va_up RI 1 o20.2.2.2.2.2.2)) else none)))
set_option maxHeartbeats 4000000 in
set_option maxRecDepth 100000 in
theorem c_X6_keep (Z : GZ) (l : Launch) (t : Nat) (tr0 : Nat) (hj : Nat) (hq : Nat) (a : Nat → Nat) (hi : Nat) (IH : Nat → Nat) (IA : Nat → Nat → Nat) (w : Nat → Int32) (er : Nat → Int32) (fl : Nat → Int32) (me : Nat → Int32) (p : Nat → Int32) (pr : Nat → Int32) (fi : Nat → Nat → Int32) (WI : Nat → Nat → Int32) (EI : Nat → Nat → Int32) (FI : Nat → Nat → Int32) (MI : Nat → Nat → Int32) (PI : Nat → Nat → Int32) (RI : Nat → Nat → Int32) (n1 : Int32) (o : (Int32 × (Nat → Nat → Int32) × (Nat → Nat → Int32) × (Nat → Nat → Int32) × (Nat → Nat → Int32) × (Nat → Nat → Int32) × (Nat → Nat → Int32) × (Nat → Nat → Int32))) (hg : g_X6_keep w er fl me p pr fi WI EI FI MI PI RI n1 = some o) : Con Z l yX6_keep cX6_keep 2 (some .int) rm_X6_keep [.ref t, .int n1] (wT Z t (a 0) tr0 hj hq hi ++ (wP Z a w er fl me p pr ++ (wI Z hi IH IA fi WI EI FI MI PI RI))) (some (.int o.1)) (wT Z t (a 0) tr0 hj hq hi ++ (wP Z a w er fl me p pr ++ (wI Z hi IH IA o.2.1 o.2.2.1 o.2.2.2.1 o.2.2.2.2.1 o.2.2.2.2.2.1 o.2.2.2.2.2.2.1 o.2.2.2.2.2.2.2))) := by
  refine Con.of (by decide) (Nat.le_of_ble_eq_true rfl) ?_
  intro X hE0
  have hE : ∀ z, z = o → endsX X Z (some .int) (some (.int z.1)) (wT Z t (a 0) tr0 hj hq hi ++ (wP Z a w er fl me p pr ++ (wI Z hi IH IA z.2.1 z.2.2.1 z.2.2.2.1 z.2.2.2.2.1 z.2.2.2.2.2.1 z.2.2.2.2.2.2.1 z.2.2.2.2.2.2.2))) := by
    rintro _ rfl; exact hE0
  unfold g_X6_keep at hg
  show AtK X Z rm_X6_keep cX6_keep RX6 2 0 0 (wT Z t (a 0) tr0 hj hq hi ++ (wP Z a w er fl me p pr ++ (wI Z hi IH IA fi WI EI FI MI PI RI))) 0 [(0, .ref t), (1, .int n1)] []
  refine r_aload_n dX6_keep_0 0 rfl ?_
  refine r_iload_n dX6_keep_1 1 rfl ?_
  obtain ⟨o2, e2, hg⟩ := ob hg
  refine r_callV (As := [.int n1]) (rest := []) (ws' := wT Z t (a 0) tr0 hj hq hi ++ (wP Z a w er fl me p pr ++ (wI Z hi IH IA fi WI EI FI MI PI RI))) 0 rfl rfl rfl (fun l => c_X6_isImage Z l t (a 0) tr0 hj hq hi IH  n1 o2 e2) qw_445 mv_X6_isImage (xPk.idx [0, 7] rfl rfl rfl rfl rfl) ⟨Nat.le_of_ble_eq_true rfl, Nat.le_of_ble_eq_true rfl⟩ ⟨rfl, rfl⟩ ⟨Nat.zero_le _, Nat.zero_le _⟩ rfl (Nat.le_of_ble_eq_true rfl) rfl dX6_keep_2 ?_
  refine r_if_ne (tgt := 10) dX6_keep_5 (by decide) (fun h5 => ?_) (fun h5 => ?_)
  · replace hg := (if_neg h5).symm.trans hg
    refine r_aload_n dX6_keep_10 0 rfl ?_
    refine gf_X6_4 (v := .ref hi) 0 rfl rfl qw_179 dX6_keep_11 ?_
    refine r_iload_n dX6_keep_14 1 rfl ?_
    by_cases h15_0 : n1 = 0
    · replace hg := (if_pos h15_0).symm.trans hg
      refine r_aald 7 2 rfl rfl (by rw [h15_0]; decide) (v := .ref (IH 0)) (by rw [h15_0]; rfl) dX6_keep_15 ?_
      refine r_aload_n dX6_keep_16 0 rfl ?_
      refine gf_X6_0 (v := .ref (a 0)) 0 rfl rfl qw_175 dX6_keep_17 ?_
      obtain ⟨o20, e20, hg⟩ := ob hg
      refine r_callV (As := [.ref (a 0)]) (rest := []) (ws' := wT Z t (a 0) tr0 hj hq hi ++ (wP Z a w er fl me p pr ++ (wI Z hi IH IA (va_up fi 0 o20.1) (va_up WI 0 o20.2.1) (va_up EI 0 o20.2.2.1) (va_up FI 0 o20.2.2.2.1) (va_up MI 0 o20.2.2.2.2.1) (va_up PI 0 o20.2.2.2.2.2.1) (va_up RI 0 o20.2.2.2.2.2.2)))) 0 rfl rfl rfl (fun l => c_X1_store Z l (IH 0) (IA 0) a (fi 0) (WI 0) (EI 0) (FI 0) (MI 0) (PI 0) (RI 0) w er fl me p pr  o20 e20) qw_449 mv_X1_store (xPk.idx [8, 10, 11, 12, 13, 14, 15, 1, 2, 3, 4, 5, 6] rfl rfl rfl rfl rfl) ⟨Nat.le_of_ble_eq_true rfl, Nat.le_of_ble_eq_true rfl⟩ ⟨rfl, rfl⟩ ⟨Nat.zero_le _, Nat.zero_le _⟩ rfl (Nat.le_of_ble_eq_true rfl) rfl dX6_keep_20 ?_
      refine r_aload_n dX6_keep_23 0 rfl ?_
      refine gf_X6_0 (v := .ref (a 0)) 0 rfl rfl qw_175 dX6_keep_24 ?_
      refine gfN_X5_0 (v := .ref (a 1)) 1 rfl rfl qw_97 dX6_keep_27 ?_
      refine r_iconst (v := 1) dX6_keep_30 kic_1 ?_
      obtain ⟨o31, e31, hg⟩ := ob hg
      refine r_callV (As := [.int 1]) (rest := []) (ws' := wT Z t (a 0) tr0 hj hq hi ++ (wP Z a w er fl me p pr ++ (wI Z hi IH IA (va_up fi 0 o20.1) (va_up WI 0 o20.2.1) (va_up EI 0 o20.2.2.1) (va_up FI 0 o20.2.2.2.1) (va_up MI 0 o20.2.2.2.2.1) (va_up PI 0 o20.2.2.2.2.2.1) (va_up RI 0 o20.2.2.2.2.2.2)))) 0 rfl rfl rfl (fun l => c_X0_tally Z l (a 1) (a 2) (a 3) w er fl 1 o31 e31) qw_391 mv_X0_tally (xPk.idx [2, 3, 4] rfl rfl rfl rfl rfl) ⟨Nat.le_of_ble_eq_true rfl, Nat.le_of_ble_eq_true rfl⟩ ⟨rfl, rfl⟩ ⟨Nat.zero_le _, Nat.zero_le _⟩ rfl (Nat.le_of_ble_eq_true rfl) rfl dX6_keep_31 ?_
      exact r_iret (hE _ (Option.some.inj hg)) dX6_keep_34
    replace hg := (if_neg h15_0).symm.trans hg
    by_cases h15_1 : n1 = 1
    · replace hg := (if_pos h15_1).symm.trans hg
      refine r_aald 7 2 rfl rfl (by rw [h15_1]; decide) (v := .ref (IH 1)) (by rw [h15_1]; rfl) dX6_keep_15 ?_
      refine r_aload_n dX6_keep_16 0 rfl ?_
      refine gf_X6_0 (v := .ref (a 0)) 0 rfl rfl qw_175 dX6_keep_17 ?_
      obtain ⟨o20, e20, hg⟩ := ob hg
      refine r_callV (As := [.ref (a 0)]) (rest := []) (ws' := wT Z t (a 0) tr0 hj hq hi ++ (wP Z a w er fl me p pr ++ (wI Z hi IH IA (va_up fi 1 o20.1) (va_up WI 1 o20.2.1) (va_up EI 1 o20.2.2.1) (va_up FI 1 o20.2.2.2.1) (va_up MI 1 o20.2.2.2.2.1) (va_up PI 1 o20.2.2.2.2.2.1) (va_up RI 1 o20.2.2.2.2.2.2)))) 0 rfl rfl rfl (fun l => c_X1_store Z l (IH 1) (IA 1) a (fi 1) (WI 1) (EI 1) (FI 1) (MI 1) (PI 1) (RI 1) w er fl me p pr  o20 e20) qw_449 mv_X1_store (xPk.idx [9, 16, 17, 18, 19, 20, 21, 1, 2, 3, 4, 5, 6] rfl rfl rfl rfl rfl) ⟨Nat.le_of_ble_eq_true rfl, Nat.le_of_ble_eq_true rfl⟩ ⟨rfl, rfl⟩ ⟨Nat.zero_le _, Nat.zero_le _⟩ rfl (Nat.le_of_ble_eq_true rfl) rfl dX6_keep_20 ?_
      refine r_aload_n dX6_keep_23 0 rfl ?_
      refine gf_X6_0 (v := .ref (a 0)) 0 rfl rfl qw_175 dX6_keep_24 ?_
      refine gfN_X5_0 (v := .ref (a 1)) 1 rfl rfl qw_97 dX6_keep_27 ?_
      refine r_iconst (v := 1) dX6_keep_30 kic_1 ?_
      obtain ⟨o31, e31, hg⟩ := ob hg
      refine r_callV (As := [.int 1]) (rest := []) (ws' := wT Z t (a 0) tr0 hj hq hi ++ (wP Z a w er fl me p pr ++ (wI Z hi IH IA (va_up fi 1 o20.1) (va_up WI 1 o20.2.1) (va_up EI 1 o20.2.2.1) (va_up FI 1 o20.2.2.2.1) (va_up MI 1 o20.2.2.2.2.1) (va_up PI 1 o20.2.2.2.2.2.1) (va_up RI 1 o20.2.2.2.2.2.2)))) 0 rfl rfl rfl (fun l => c_X0_tally Z l (a 1) (a 2) (a 3) w er fl 1 o31 e31) qw_391 mv_X0_tally (xPk.idx [2, 3, 4] rfl rfl rfl rfl rfl) ⟨Nat.le_of_ble_eq_true rfl, Nat.le_of_ble_eq_true rfl⟩ ⟨rfl, rfl⟩ ⟨Nat.zero_le _, Nat.zero_le _⟩ rfl (Nat.le_of_ble_eq_true rfl) rfl dX6_keep_31 ?_
      exact r_iret (hE _ (Option.some.inj hg)) dX6_keep_34
    replace hg := (if_neg h15_1).symm.trans hg
    exact nomatch (show (none : Option _) = some o from hg)
  · replace hg := (if_pos h5).symm.trans hg
    refine r_iconst (v := (-1)) dX6_keep_8 kic_m1 ?_
    exact r_iret (hE _ (Option.some.inj hg)) dX6_keep_9

-- TicketJournal.back(I)I
abbrev rm_X6_back : Room := { frames := 6, cells := 0, slots := 0, locals := 139 }
def g_X6_back (w : Nat → Int32) (er : Nat → Int32) (fl : Nat → Int32) (me : Nat → Int32) (p : Nat → Int32) (pr : Nat → Int32) (fi : Nat → Nat → Int32) (WI : Nat → Nat → Int32) (EI : Nat → Nat → Int32) (FI : Nat → Nat → Int32) (MI : Nat → Nat → Int32) (PI : Nat → Nat → Int32) (RI : Nat → Nat → Int32) (pv : Nat → Int32) (W8 : Nat → Nat → Int32) (E8 : Nat → Nat → Int32) (F8 : Nat → Nat → Int32) (M8 : Nat → Nat → Int32) (P8 : Nat → Nat → Int32) (R8 : Nat → Nat → Int32) (n1 : Int32) : Option (Int32 × (Nat → Int32) × (Nat → Int32) × (Nat → Int32) × (Nat → Int32) × (Nat → Int32) × (Nat → Int32) × (Nat → Int32) × (Nat → Nat → Int32) × (Nat → Nat → Int32) × (Nat → Nat → Int32) × (Nat → Nat → Int32) × (Nat → Nat → Int32) × (Nat → Nat → Int32)) :=
  (g_X6_isImage n1).bind fun o2 => (if o2 = 0 then some ((-1), w, er, fl, me, p, pr, pv, W8, E8, F8, M8, P8, R8) else (if n1 = 0 then (if ((fi 0) 0) = 0 then some ((-2), w, er, fl, me, p, pr, pv, W8, E8, F8, M8, P8, R8) else (g_X4_remember pv W8 E8 F8 M8 P8 R8 w er fl me p pr).bind fun o33 => (if n1 = 0 then (g_X5_copyFrom w er fl me p pr (WI 0) (EI 0) (FI 0) (MI 0) (PI 0) (RI 0)).bind fun o49 => (g_X0_tally o49.1 1).bind fun o60 => some (o60, o49.1, o49.2.1, o49.2.2.1, o49.2.2.2.1, o49.2.2.2.2.1, o49.2.2.2.2.2, o33.1, o33.2.1, o33.2.2.1, o33.2.2.2.1, o33.2.2.2.2.1, o33.2.2.2.2.2.1, o33.2.2.2.2.2.2) else (if n1 = 1 then (g_X5_copyFrom w er fl me p pr (WI 1) (EI 1) (FI 1) (MI 1) (PI 1) (RI 1)).bind fun o49 => (g_X0_tally o49.1 1).bind fun o60 => some (o60, o49.1, o49.2.1, o49.2.2.1, o49.2.2.2.1, o49.2.2.2.2.1, o49.2.2.2.2.2, o33.1, o33.2.1, o33.2.2.1, o33.2.2.2.1, o33.2.2.2.2.1, o33.2.2.2.2.2.1, o33.2.2.2.2.2.2) else none))) else (if n1 = 1 then (if ((fi 1) 0) = 0 then some ((-2), w, er, fl, me, p, pr, pv, W8, E8, F8, M8, P8, R8) else (g_X4_remember pv W8 E8 F8 M8 P8 R8 w er fl me p pr).bind fun o33 => (if n1 = 0 then (g_X5_copyFrom w er fl me p pr (WI 0) (EI 0) (FI 0) (MI 0) (PI 0) (RI 0)).bind fun o49 => (g_X0_tally o49.1 1).bind fun o60 => some (o60, o49.1, o49.2.1, o49.2.2.1, o49.2.2.2.1, o49.2.2.2.2.1, o49.2.2.2.2.2, o33.1, o33.2.1, o33.2.2.1, o33.2.2.2.1, o33.2.2.2.2.1, o33.2.2.2.2.2.1, o33.2.2.2.2.2.2) else (if n1 = 1 then (g_X5_copyFrom w er fl me p pr (WI 1) (EI 1) (FI 1) (MI 1) (PI 1) (RI 1)).bind fun o49 => (g_X0_tally o49.1 1).bind fun o60 => some (o60, o49.1, o49.2.1, o49.2.2.1, o49.2.2.2.1, o49.2.2.2.2.1, o49.2.2.2.2.2, o33.1, o33.2.1, o33.2.2.1, o33.2.2.2.1, o33.2.2.2.2.1, o33.2.2.2.2.2.1, o33.2.2.2.2.2.2) else none))) else none)))
set_option maxHeartbeats 4000000 in
set_option maxRecDepth 100000 in
theorem c_X6_back (Z : GZ) (l : Launch) (t : Nat) (tr0 : Nat) (hj : Nat) (a : Nat → Nat) (hi : Nat) (IH : Nat → Nat) (IA : Nat → Nat → Nat) (hq : Nat) (hs : Nat) (AD : Nat → Nat → Nat) (w : Nat → Int32) (er : Nat → Int32) (fl : Nat → Int32) (me : Nat → Int32) (p : Nat → Int32) (pr : Nat → Int32) (fi : Nat → Nat → Int32) (WI : Nat → Nat → Int32) (EI : Nat → Nat → Int32) (FI : Nat → Nat → Int32) (MI : Nat → Nat → Int32) (PI : Nat → Nat → Int32) (RI : Nat → Nat → Int32) (pv : Nat → Int32) (W8 : Nat → Nat → Int32) (E8 : Nat → Nat → Int32) (F8 : Nat → Nat → Int32) (M8 : Nat → Nat → Int32) (P8 : Nat → Nat → Int32) (R8 : Nat → Nat → Int32) (n1 : Int32) (o : (Int32 × (Nat → Int32) × (Nat → Int32) × (Nat → Int32) × (Nat → Int32) × (Nat → Int32) × (Nat → Int32) × (Nat → Int32) × (Nat → Nat → Int32) × (Nat → Nat → Int32) × (Nat → Nat → Int32) × (Nat → Nat → Int32) × (Nat → Nat → Int32) × (Nat → Nat → Int32))) (hg : g_X6_back w er fl me p pr fi WI EI FI MI PI RI pv W8 E8 F8 M8 P8 R8 n1 = some o) : Con Z l yX6_back cX6_back 2 (some .int) rm_X6_back [.ref t, .int n1] (wT Z t (a 0) tr0 hj hq hi ++ (wP Z a w er fl me p pr ++ (wI Z hi IH IA fi WI EI FI MI PI RI ++ (wQ Z hq hs AD pv W8 E8 F8 M8 P8 R8)))) (some (.int o.1)) (wT Z t (a 0) tr0 hj hq hi ++ (wP Z a o.2.1 o.2.2.1 o.2.2.2.1 o.2.2.2.2.1 o.2.2.2.2.2.1 o.2.2.2.2.2.2.1 ++ (wI Z hi IH IA fi WI EI FI MI PI RI ++ (wQ Z hq hs AD o.2.2.2.2.2.2.2.1 o.2.2.2.2.2.2.2.2.1 o.2.2.2.2.2.2.2.2.2.1 o.2.2.2.2.2.2.2.2.2.2.1 o.2.2.2.2.2.2.2.2.2.2.2.1 o.2.2.2.2.2.2.2.2.2.2.2.2.1 o.2.2.2.2.2.2.2.2.2.2.2.2.2)))) := by
  refine Con.of (by decide) (Nat.le_of_ble_eq_true rfl) ?_
  intro X hE0
  have hE : ∀ z, z = o → endsX X Z (some .int) (some (.int z.1)) (wT Z t (a 0) tr0 hj hq hi ++ (wP Z a z.2.1 z.2.2.1 z.2.2.2.1 z.2.2.2.2.1 z.2.2.2.2.2.1 z.2.2.2.2.2.2.1 ++ (wI Z hi IH IA fi WI EI FI MI PI RI ++ (wQ Z hq hs AD z.2.2.2.2.2.2.2.1 z.2.2.2.2.2.2.2.2.1 z.2.2.2.2.2.2.2.2.2.1 z.2.2.2.2.2.2.2.2.2.2.1 z.2.2.2.2.2.2.2.2.2.2.2.1 z.2.2.2.2.2.2.2.2.2.2.2.2.1 z.2.2.2.2.2.2.2.2.2.2.2.2.2)))) := by
    rintro _ rfl; exact hE0
  unfold g_X6_back at hg
  show AtK X Z rm_X6_back cX6_back RX6 2 0 0 (wT Z t (a 0) tr0 hj hq hi ++ (wP Z a w er fl me p pr ++ (wI Z hi IH IA fi WI EI FI MI PI RI ++ (wQ Z hq hs AD pv W8 E8 F8 M8 P8 R8)))) 0 [(0, .ref t), (1, .int n1)] []
  refine r_aload_n dX6_back_0 0 rfl ?_
  refine r_iload_n dX6_back_1 1 rfl ?_
  obtain ⟨o2, e2, hg⟩ := ob hg
  refine r_callV (As := [.int n1]) (rest := []) (ws' := wT Z t (a 0) tr0 hj hq hi ++ (wP Z a w er fl me p pr ++ (wI Z hi IH IA fi WI EI FI MI PI RI ++ (wQ Z hq hs AD pv W8 E8 F8 M8 P8 R8)))) 0 rfl rfl rfl (fun l => c_X6_isImage Z l t (a 0) tr0 hj hq hi IH  n1 o2 e2) qw_445 mv_X6_isImage (xPk.idx [0, 7] rfl rfl rfl rfl rfl) ⟨Nat.le_of_ble_eq_true rfl, Nat.le_of_ble_eq_true rfl⟩ ⟨rfl, rfl⟩ ⟨Nat.zero_le _, Nat.zero_le _⟩ rfl (Nat.le_of_ble_eq_true rfl) rfl dX6_back_2 ?_
  refine r_if_ne (tgt := 10) dX6_back_5 (by decide) (fun h5 => ?_) (fun h5 => ?_)
  · replace hg := (if_neg h5).symm.trans hg
    refine r_aload_n dX6_back_10 0 rfl ?_
    refine gf_X6_4 (v := .ref hi) 0 rfl rfl qw_179 dX6_back_11 ?_
    refine r_iload_n dX6_back_14 1 rfl ?_
    by_cases h15_0 : n1 = 0
    · replace hg := (if_pos h15_0).symm.trans hg
      refine r_aald 7 2 rfl rfl (by rw [h15_0]; decide) (v := .ref (IH 0)) (by rw [h15_0]; rfl) dX6_back_15 ?_
      refine gfN_X1_1 (v := .int ((fi 0) 0)) 8 rfl rfl qw_169 dX6_back_16 ?_
      refine r_if_ne (tgt := 25) dX6_back_19 (by decide) (fun h19 => ?_) (fun h19 => ?_)
      · replace hg := (if_neg h19).symm.trans hg
        refine r_aload_n dX6_back_25 0 rfl ?_
        refine gf_X6_3 (v := .ref hq) 0 rfl rfl qw_178 dX6_back_26 ?_
        refine r_aload_n dX6_back_29 0 rfl ?_
        refine gf_X6_0 (v := .ref (a 0)) 0 rfl rfl qw_175 dX6_back_30 ?_
        obtain ⟨o33, e33, hg⟩ := ob hg
        refine r_callV (As := [.ref (a 0)]) (rest := []) (ws' := wT Z t (a 0) tr0 hj hq hi ++ (wP Z a w er fl me p pr ++ (wI Z hi IH IA fi WI EI FI MI PI RI ++ (wQ Z hq hs AD o33.1 o33.2.1 o33.2.2.1 o33.2.2.2.1 o33.2.2.2.2.1 o33.2.2.2.2.2.1 o33.2.2.2.2.2.2)))) 0 rfl rfl rfl (fun l => c_X4_rememberQ Z l hq hs AD a pv W8 E8 F8 M8 P8 R8 w er fl me p pr  o33 e33) qw_232 mv_X4_remember (xPk.seg2r (wT Z t (a 0) tr0 hj hq hi) (wP Z a w er fl me p pr) (wP Z a w er fl me p pr) (wI Z hi IH IA fi WI EI FI MI PI RI) (wQ Z hq hs AD pv W8 E8 F8 M8 P8 R8) (wQ Z hq hs AD o33.1 o33.2.1 o33.2.2.1 o33.2.2.2.1 o33.2.2.2.2.1 o33.2.2.2.2.2.1 o33.2.2.2.2.2.2) (([] : va_W)) (by simp only [List.append_assoc, List.append_nil, List.nil_append]) (by simp only [List.append_assoc, List.append_nil, List.nil_append]) rfl wQ_dom) ⟨Nat.le_of_ble_eq_true rfl, Nat.le_of_ble_eq_true rfl⟩ ⟨rfl, rfl⟩ ⟨Nat.zero_le _, Nat.zero_le _⟩ rfl (Nat.le_of_ble_eq_true rfl) rfl dX6_back_33 ?_
        refine r_aload_n dX6_back_36 0 rfl ?_
        refine gf_X6_0 (v := .ref (a 0)) 0 rfl rfl qw_175 dX6_back_37 ?_
        refine r_aload_n dX6_back_40 0 rfl ?_
        refine gf_X6_4 (v := .ref hi) 0 rfl rfl qw_179 dX6_back_41 ?_
        refine r_iload_n dX6_back_44 1 rfl ?_
        by_cases h45_0 : n1 = 0
        · replace hg := (if_pos h45_0).symm.trans hg
          refine r_aald 7 2 rfl rfl (by rw [h45_0]; decide) (v := .ref (IH 0)) (by rw [h45_0]; rfl) dX6_back_45 ?_
          refine gfN_X1_0 (v := .ref (IA 0 0)) 8 rfl rfl qw_167 dX6_back_46 ?_
          obtain ⟨o49, e49, hg⟩ := ob hg
          refine r_callV (As := [.ref (IA 0 0)]) (rest := []) (ws' := wT Z t (a 0) tr0 hj hq hi ++ (wP Z a o49.1 o49.2.1 o49.2.2.1 o49.2.2.2.1 o49.2.2.2.2.1 o49.2.2.2.2.2 ++ (wI Z hi IH IA fi WI EI FI MI PI RI ++ (wQ Z hq hs AD o33.1 o33.2.1 o33.2.2.1 o33.2.2.2.1 o33.2.2.2.2.1 o33.2.2.2.2.2.1 o33.2.2.2.2.2.2)))) 0 rfl rfl rfl (fun l => c_X5_copyFrom Z l a (IA 0) w er fl me p pr (WI 0) (EI 0) (FI 0) (MI 0) (PI 0) (RI 0)  o49 e49) qw_458 mv_X5_copyFrom (xPk.idx [1, 2, 3, 4, 5, 6, 10, 11, 12, 13, 14, 15] rfl rfl rfl rfl rfl) ⟨Nat.le_of_ble_eq_true rfl, Nat.le_of_ble_eq_true rfl⟩ ⟨rfl, rfl⟩ ⟨Nat.zero_le _, Nat.zero_le _⟩ rfl (Nat.le_of_ble_eq_true rfl) rfl dX6_back_49 ?_
          refine r_aload_n dX6_back_52 0 rfl ?_
          refine gf_X6_0 (v := .ref (a 0)) 0 rfl rfl qw_175 dX6_back_53 ?_
          refine gfN_X5_0 (v := .ref (a 1)) 1 rfl rfl qw_97 dX6_back_56 ?_
          refine r_iconst (v := 1) dX6_back_59 kic_1 ?_
          obtain ⟨o60, e60, hg⟩ := ob hg
          refine r_callV (As := [.int 1]) (rest := []) (ws' := wT Z t (a 0) tr0 hj hq hi ++ (wP Z a o49.1 o49.2.1 o49.2.2.1 o49.2.2.2.1 o49.2.2.2.2.1 o49.2.2.2.2.2 ++ (wI Z hi IH IA fi WI EI FI MI PI RI ++ (wQ Z hq hs AD o33.1 o33.2.1 o33.2.2.1 o33.2.2.2.1 o33.2.2.2.2.1 o33.2.2.2.2.2.1 o33.2.2.2.2.2.2)))) 0 rfl rfl rfl (fun l => c_X0_tally Z l (a 1) (a 2) (a 3) o49.1 o49.2.1 o49.2.2.1 1 o60 e60) qw_391 mv_X0_tally (xPk.idx [2, 3, 4] rfl rfl rfl rfl rfl) ⟨Nat.le_of_ble_eq_true rfl, Nat.le_of_ble_eq_true rfl⟩ ⟨rfl, rfl⟩ ⟨Nat.zero_le _, Nat.zero_le _⟩ rfl (Nat.le_of_ble_eq_true rfl) rfl dX6_back_60 ?_
          exact r_iret (hE _ (Option.some.inj hg)) dX6_back_63
        replace hg := (if_neg h45_0).symm.trans hg
        by_cases h45_1 : n1 = 1
        · replace hg := (if_pos h45_1).symm.trans hg
          refine r_aald 7 2 rfl rfl (by rw [h45_1]; decide) (v := .ref (IH 1)) (by rw [h45_1]; rfl) dX6_back_45 ?_
          refine gfN_X1_0 (v := .ref (IA 1 0)) 9 rfl rfl qw_167 dX6_back_46 ?_
          obtain ⟨o49, e49, hg⟩ := ob hg
          refine r_callV (As := [.ref (IA 1 0)]) (rest := []) (ws' := wT Z t (a 0) tr0 hj hq hi ++ (wP Z a o49.1 o49.2.1 o49.2.2.1 o49.2.2.2.1 o49.2.2.2.2.1 o49.2.2.2.2.2 ++ (wI Z hi IH IA fi WI EI FI MI PI RI ++ (wQ Z hq hs AD o33.1 o33.2.1 o33.2.2.1 o33.2.2.2.1 o33.2.2.2.2.1 o33.2.2.2.2.2.1 o33.2.2.2.2.2.2)))) 0 rfl rfl rfl (fun l => c_X5_copyFrom Z l a (IA 1) w er fl me p pr (WI 1) (EI 1) (FI 1) (MI 1) (PI 1) (RI 1)  o49 e49) qw_458 mv_X5_copyFrom (xPk.idx [1, 2, 3, 4, 5, 6, 16, 17, 18, 19, 20, 21] rfl rfl rfl rfl rfl) ⟨Nat.le_of_ble_eq_true rfl, Nat.le_of_ble_eq_true rfl⟩ ⟨rfl, rfl⟩ ⟨Nat.zero_le _, Nat.zero_le _⟩ rfl (Nat.le_of_ble_eq_true rfl) rfl dX6_back_49 ?_
          refine r_aload_n dX6_back_52 0 rfl ?_
          refine gf_X6_0 (v := .ref (a 0)) 0 rfl rfl qw_175 dX6_back_53 ?_
          refine gfN_X5_0 (v := .ref (a 1)) 1 rfl rfl qw_97 dX6_back_56 ?_
          refine r_iconst (v := 1) dX6_back_59 kic_1 ?_
          obtain ⟨o60, e60, hg⟩ := ob hg
          refine r_callV (As := [.int 1]) (rest := []) (ws' := wT Z t (a 0) tr0 hj hq hi ++ (wP Z a o49.1 o49.2.1 o49.2.2.1 o49.2.2.2.1 o49.2.2.2.2.1 o49.2.2.2.2.2 ++ (wI Z hi IH IA fi WI EI FI MI PI RI ++ (wQ Z hq hs AD o33.1 o33.2.1 o33.2.2.1 o33.2.2.2.1 o33.2.2.2.2.1 o33.2.2.2.2.2.1 o33.2.2.2.2.2.2)))) 0 rfl rfl rfl (fun l => c_X0_tally Z l (a 1) (a 2) (a 3) o49.1 o49.2.1 o49.2.2.1 1 o60 e60) qw_391 mv_X0_tally (xPk.idx [2, 3, 4] rfl rfl rfl rfl rfl) ⟨Nat.le_of_ble_eq_true rfl, Nat.le_of_ble_eq_true rfl⟩ ⟨rfl, rfl⟩ ⟨Nat.zero_le _, Nat.zero_le _⟩ rfl (Nat.le_of_ble_eq_true rfl) rfl dX6_back_60 ?_
          exact r_iret (hE _ (Option.some.inj hg)) dX6_back_63
        replace hg := (if_neg h45_1).symm.trans hg
        exact nomatch (show (none : Option _) = some o from hg)
      · replace hg := (if_pos h19).symm.trans hg
        refine r_bipush (v := (-2)) dX6_back_22 kbp_m2 ?_
        exact r_iret (hE _ (Option.some.inj hg)) dX6_back_24
    replace hg := (if_neg h15_0).symm.trans hg
    by_cases h15_1 : n1 = 1
    · replace hg := (if_pos h15_1).symm.trans hg
      refine r_aald 7 2 rfl rfl (by rw [h15_1]; decide) (v := .ref (IH 1)) (by rw [h15_1]; rfl) dX6_back_15 ?_
      refine gfN_X1_1 (v := .int ((fi 1) 0)) 9 rfl rfl qw_169 dX6_back_16 ?_
      refine r_if_ne (tgt := 25) dX6_back_19 (by decide) (fun h19 => ?_) (fun h19 => ?_)
      · replace hg := (if_neg h19).symm.trans hg
        refine r_aload_n dX6_back_25 0 rfl ?_
        refine gf_X6_3 (v := .ref hq) 0 rfl rfl qw_178 dX6_back_26 ?_
        refine r_aload_n dX6_back_29 0 rfl ?_
        refine gf_X6_0 (v := .ref (a 0)) 0 rfl rfl qw_175 dX6_back_30 ?_
        obtain ⟨o33, e33, hg⟩ := ob hg
        refine r_callV (As := [.ref (a 0)]) (rest := []) (ws' := wT Z t (a 0) tr0 hj hq hi ++ (wP Z a w er fl me p pr ++ (wI Z hi IH IA fi WI EI FI MI PI RI ++ (wQ Z hq hs AD o33.1 o33.2.1 o33.2.2.1 o33.2.2.2.1 o33.2.2.2.2.1 o33.2.2.2.2.2.1 o33.2.2.2.2.2.2)))) 0 rfl rfl rfl (fun l => c_X4_rememberQ Z l hq hs AD a pv W8 E8 F8 M8 P8 R8 w er fl me p pr  o33 e33) qw_232 mv_X4_remember (xPk.seg2r (wT Z t (a 0) tr0 hj hq hi) (wP Z a w er fl me p pr) (wP Z a w er fl me p pr) (wI Z hi IH IA fi WI EI FI MI PI RI) (wQ Z hq hs AD pv W8 E8 F8 M8 P8 R8) (wQ Z hq hs AD o33.1 o33.2.1 o33.2.2.1 o33.2.2.2.1 o33.2.2.2.2.1 o33.2.2.2.2.2.1 o33.2.2.2.2.2.2) (([] : va_W)) (by simp only [List.append_assoc, List.append_nil, List.nil_append]) (by simp only [List.append_assoc, List.append_nil, List.nil_append]) rfl wQ_dom) ⟨Nat.le_of_ble_eq_true rfl, Nat.le_of_ble_eq_true rfl⟩ ⟨rfl, rfl⟩ ⟨Nat.zero_le _, Nat.zero_le _⟩ rfl (Nat.le_of_ble_eq_true rfl) rfl dX6_back_33 ?_
        refine r_aload_n dX6_back_36 0 rfl ?_
        refine gf_X6_0 (v := .ref (a 0)) 0 rfl rfl qw_175 dX6_back_37 ?_
        refine r_aload_n dX6_back_40 0 rfl ?_
        refine gf_X6_4 (v := .ref hi) 0 rfl rfl qw_179 dX6_back_41 ?_
        refine r_iload_n dX6_back_44 1 rfl ?_
        by_cases h45_0 : n1 = 0
        · replace hg := (if_pos h45_0).symm.trans hg
          refine r_aald 7 2 rfl rfl (by rw [h45_0]; decide) (v := .ref (IH 0)) (by rw [h45_0]; rfl) dX6_back_45 ?_
          refine gfN_X1_0 (v := .ref (IA 0 0)) 8 rfl rfl qw_167 dX6_back_46 ?_
          obtain ⟨o49, e49, hg⟩ := ob hg
          refine r_callV (As := [.ref (IA 0 0)]) (rest := []) (ws' := wT Z t (a 0) tr0 hj hq hi ++ (wP Z a o49.1 o49.2.1 o49.2.2.1 o49.2.2.2.1 o49.2.2.2.2.1 o49.2.2.2.2.2 ++ (wI Z hi IH IA fi WI EI FI MI PI RI ++ (wQ Z hq hs AD o33.1 o33.2.1 o33.2.2.1 o33.2.2.2.1 o33.2.2.2.2.1 o33.2.2.2.2.2.1 o33.2.2.2.2.2.2)))) 0 rfl rfl rfl (fun l => c_X5_copyFrom Z l a (IA 0) w er fl me p pr (WI 0) (EI 0) (FI 0) (MI 0) (PI 0) (RI 0)  o49 e49) qw_458 mv_X5_copyFrom (xPk.idx [1, 2, 3, 4, 5, 6, 10, 11, 12, 13, 14, 15] rfl rfl rfl rfl rfl) ⟨Nat.le_of_ble_eq_true rfl, Nat.le_of_ble_eq_true rfl⟩ ⟨rfl, rfl⟩ ⟨Nat.zero_le _, Nat.zero_le _⟩ rfl (Nat.le_of_ble_eq_true rfl) rfl dX6_back_49 ?_
          refine r_aload_n dX6_back_52 0 rfl ?_
          refine gf_X6_0 (v := .ref (a 0)) 0 rfl rfl qw_175 dX6_back_53 ?_
          refine gfN_X5_0 (v := .ref (a 1)) 1 rfl rfl qw_97 dX6_back_56 ?_
          refine r_iconst (v := 1) dX6_back_59 kic_1 ?_
          obtain ⟨o60, e60, hg⟩ := ob hg
          refine r_callV (As := [.int 1]) (rest := []) (ws' := wT Z t (a 0) tr0 hj hq hi ++ (wP Z a o49.1 o49.2.1 o49.2.2.1 o49.2.2.2.1 o49.2.2.2.2.1 o49.2.2.2.2.2 ++ (wI Z hi IH IA fi WI EI FI MI PI RI ++ (wQ Z hq hs AD o33.1 o33.2.1 o33.2.2.1 o33.2.2.2.1 o33.2.2.2.2.1 o33.2.2.2.2.2.1 o33.2.2.2.2.2.2)))) 0 rfl rfl rfl (fun l => c_X0_tally Z l (a 1) (a 2) (a 3) o49.1 o49.2.1 o49.2.2.1 1 o60 e60) qw_391 mv_X0_tally (xPk.idx [2, 3, 4] rfl rfl rfl rfl rfl) ⟨Nat.le_of_ble_eq_true rfl, Nat.le_of_ble_eq_true rfl⟩ ⟨rfl, rfl⟩ ⟨Nat.zero_le _, Nat.zero_le _⟩ rfl (Nat.le_of_ble_eq_true rfl) rfl dX6_back_60 ?_
          exact r_iret (hE _ (Option.some.inj hg)) dX6_back_63
        replace hg := (if_neg h45_0).symm.trans hg
        by_cases h45_1 : n1 = 1
        · replace hg := (if_pos h45_1).symm.trans hg
          refine r_aald 7 2 rfl rfl (by rw [h45_1]; decide) (v := .ref (IH 1)) (by rw [h45_1]; rfl) dX6_back_45 ?_
          refine gfN_X1_0 (v := .ref (IA 1 0)) 9 rfl rfl qw_167 dX6_back_46 ?_
          obtain ⟨o49, e49, hg⟩ := ob hg
          refine r_callV (As := [.ref (IA 1 0)]) (rest := []) (ws' := wT Z t (a 0) tr0 hj hq hi ++ (wP Z a o49.1 o49.2.1 o49.2.2.1 o49.2.2.2.1 o49.2.2.2.2.1 o49.2.2.2.2.2 ++ (wI Z hi IH IA fi WI EI FI MI PI RI ++ (wQ Z hq hs AD o33.1 o33.2.1 o33.2.2.1 o33.2.2.2.1 o33.2.2.2.2.1 o33.2.2.2.2.2.1 o33.2.2.2.2.2.2)))) 0 rfl rfl rfl (fun l => c_X5_copyFrom Z l a (IA 1) w er fl me p pr (WI 1) (EI 1) (FI 1) (MI 1) (PI 1) (RI 1)  o49 e49) qw_458 mv_X5_copyFrom (xPk.idx [1, 2, 3, 4, 5, 6, 16, 17, 18, 19, 20, 21] rfl rfl rfl rfl rfl) ⟨Nat.le_of_ble_eq_true rfl, Nat.le_of_ble_eq_true rfl⟩ ⟨rfl, rfl⟩ ⟨Nat.zero_le _, Nat.zero_le _⟩ rfl (Nat.le_of_ble_eq_true rfl) rfl dX6_back_49 ?_
          refine r_aload_n dX6_back_52 0 rfl ?_
          refine gf_X6_0 (v := .ref (a 0)) 0 rfl rfl qw_175 dX6_back_53 ?_
          refine gfN_X5_0 (v := .ref (a 1)) 1 rfl rfl qw_97 dX6_back_56 ?_
          refine r_iconst (v := 1) dX6_back_59 kic_1 ?_
          obtain ⟨o60, e60, hg⟩ := ob hg
          refine r_callV (As := [.int 1]) (rest := []) (ws' := wT Z t (a 0) tr0 hj hq hi ++ (wP Z a o49.1 o49.2.1 o49.2.2.1 o49.2.2.2.1 o49.2.2.2.2.1 o49.2.2.2.2.2 ++ (wI Z hi IH IA fi WI EI FI MI PI RI ++ (wQ Z hq hs AD o33.1 o33.2.1 o33.2.2.1 o33.2.2.2.1 o33.2.2.2.2.1 o33.2.2.2.2.2.1 o33.2.2.2.2.2.2)))) 0 rfl rfl rfl (fun l => c_X0_tally Z l (a 1) (a 2) (a 3) o49.1 o49.2.1 o49.2.2.1 1 o60 e60) qw_391 mv_X0_tally (xPk.idx [2, 3, 4] rfl rfl rfl rfl rfl) ⟨Nat.le_of_ble_eq_true rfl, Nat.le_of_ble_eq_true rfl⟩ ⟨rfl, rfl⟩ ⟨Nat.zero_le _, Nat.zero_le _⟩ rfl (Nat.le_of_ble_eq_true rfl) rfl dX6_back_60 ?_
          exact r_iret (hE _ (Option.some.inj hg)) dX6_back_63
        replace hg := (if_neg h45_1).symm.trans hg
        exact nomatch (show (none : Option _) = some o from hg)
      · replace hg := (if_pos h19).symm.trans hg
        refine r_bipush (v := (-2)) dX6_back_22 kbp_m2 ?_
        exact r_iret (hE _ (Option.some.inj hg)) dX6_back_24
    replace hg := (if_neg h15_1).symm.trans hg
    exact nomatch (show (none : Option _) = some o from hg)
  · replace hg := (if_pos h5).symm.trans hg
    refine r_iconst (v := (-1)) dX6_back_8 kic_m1 ?_
    exact r_iret (hE _ (Option.some.inj hg)) dX6_back_9
end
