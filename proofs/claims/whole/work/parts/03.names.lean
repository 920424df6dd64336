def RX0 : String := "ServerHouse$Box"
def TX0 : u_T := fun k => match k with
  | 0 => ("ServerHouse$Box", "row", "[LServerHouse$Message;", true)
  | _ => ("ServerHouse$Box", "size", "I", false)
def tyX0 : Nat → FieldType := fun k => match k with
  | 0 => .array (.object "ServerHouse$Message")
  | _ => .int
abbrev wsX00 : List Cond := u_ws RX0 TX0 2
theorem nmX0 : ∀ a, a < 2 → ∀ b, b < 2 → a ≠ b → (TX0 a).2.1 ≠ (TX0 b).2.1 := by decide +kernel
theorem tyX0_ok : ∀ k, k < 2 → parseFieldDescriptor (TX0 k).2.2.1 = some (tyX0 k) := by decide +kernel
abbrev cX0_init : ByteArray := prog_2_method_1_code
def yX0_init : MethodName := ⟨RX0, "<init>", "()V"⟩
abbrev cX0_look : ByteArray := prog_2_method_2_code
def yX0_look : MethodName := ⟨RX0, "look", "(I)LServerHouse$Message;"⟩
abbrev cX0_grow : ByteArray := prog_2_method_3_code
def yX0_grow : MethodName := ⟨RX0, "grow", "()LServerHouse$Message;"⟩
abbrev cX0_take : ByteArray := prog_2_method_4_code
def yX0_take : MethodName := ⟨RX0, "take", "(I)LServerHouse$Message;"⟩
abbrev cX0_firstFor : ByteArray := prog_2_method_5_code
def yX0_firstFor : MethodName := ⟨RX0, "firstFor", "(I)I"⟩
abbrev cX0_firstOf : ByteArray := prog_2_method_6_code
def yX0_firstOf : MethodName := ⟨RX0, "firstOf", "(I)I"⟩
abbrev cX0_dropFrom : ByteArray := prog_2_method_7_code
def yX0_dropFrom : MethodName := ⟨RX0, "dropFrom", "(I)V"⟩
def RX1 : String := "ServerHouse$Core"
def TX1 : u_T := fun k => match k with
  | 0 => ("ServerHouse$Core", "boxes", "[LServerHouse$Box;", true)
  | 1 => ("ServerHouse$Core", "lives", "[Z", true)
  | 2 => ("ServerHouse$Core", "drafts", "[LServerHouse$Message;", true)
  | 3 => ("ServerHouse$Core", "loose", "LServerHouse$Message;", true)
  | 4 => ("ServerHouse$Core", "driverLife", "I", false)
  | 5 => ("ServerHouse$Core", "forbidden", "I", false)
  | _ => ("ServerHouse$Core", "passed", "I", false)
def tyX1 : Nat → FieldType := fun k => match k with
  | 0 => .array (.object "ServerHouse$Box")
  | 1 => .array .boolean
  | 2 => .array (.object "ServerHouse$Message")
  | 3 => .object "ServerHouse$Message"
  | 4 => .int
  | 5 => .int
  | _ => .int
abbrev wsX10 : List Cond := u_ws RX1 TX1 7
theorem nmX1 : ∀ a, a < 7 → ∀ b, b < 7 → a ≠ b → (TX1 a).2.1 ≠ (TX1 b).2.1 := by decide +kernel
theorem tyX1_ok : ∀ k, k < 7 → parseFieldDescriptor (TX1 k).2.2.1 = some (tyX1 k) := by decide +kernel
abbrev cX1_init : ByteArray := prog_3_method_1_code
def yX1_init : MethodName := ⟨RX1, "<init>", "()V"⟩
abbrev cX1_draft : ByteArray := prog_3_method_2_code
def yX1_draft : MethodName := ⟨RX1, "draft", "(IIII)LServerHouse$Message;"⟩
abbrev cX1_send : ByteArray := prog_3_method_3_code
def yX1_send : MethodName := ⟨RX1, "send", "(IIIII)V"⟩
abbrev cX1_postLoose : ByteArray := prog_3_method_4_code
def yX1_postLoose : MethodName := ⟨RX1, "postLoose", "(IIIII)I"⟩
abbrev cX1_sendHeld : ByteArray := prog_3_method_5_code
def yX1_sendHeld : MethodName := ⟨RX1, "sendHeld", "(I)Z"⟩
abbrev cX1_post : ByteArray := prog_3_method_6_code
def yX1_post : MethodName := ⟨RX1, "post", "(LServerHouse$Message;I)I"⟩
abbrev cX1_end : ByteArray := prog_3_method_7_code
def yX1_end : MethodName := ⟨RX1, "end", "(I)V"⟩
abbrev cX1_startDriver : ByteArray := prog_3_method_8_code
def yX1_startDriver : MethodName := ⟨RX1, "startDriver", "()V"⟩
abbrev cX1_livingUsers : ByteArray := prog_3_method_9_code
def yX1_livingUsers : MethodName := ⟨RX1, "livingUsers", "()I"⟩
def RX2 : String := "ServerHouse$Driver"
def TX2 : u_T := fun k => match k with
  | 0 => ("ServerHouse$Driver", "disk", "[I", true)
  | 1 => ("ServerHouse$Driver", "numbers", "[I", true)
  | 2 => ("ServerHouse$Driver", "hanging", "Z", false)
  | 3 => ("ServerHouse$Driver", "arm", "I", false)
  | 4 => ("ServerHouse$Driver", "job", "I", false)
  | _ => ("ServerHouse$Driver", "block", "I", false)
def tyX2 : Nat → FieldType := fun k => match k with
  | 0 => .array .int
  | 1 => .array .int
  | 2 => .boolean
  | 3 => .int
  | 4 => .int
  | _ => .int
abbrev wsX20 : List Cond := u_ws RX2 TX2 6
theorem nmX2 : ∀ a, a < 6 → ∀ b, b < 6 → a ≠ b → (TX2 a).2.1 ≠ (TX2 b).2.1 := by decide +kernel
theorem tyX2_ok : ∀ k, k < 6 → parseFieldDescriptor (TX2 k).2.2.1 = some (tyX2 k) := by decide +kernel
abbrev cX2_init : ByteArray := prog_4_method_1_code
def yX2_init : MethodName := ⟨RX2, "<init>", "()V"⟩
abbrev cX2_takeTurn : ByteArray := prog_4_method_2_code
def yX2_takeTurn : MethodName := ⟨RX2, "takeTurn", "(LServerHouse$Core;)V"⟩
abbrev cX2_begin : ByteArray := prog_4_method_3_code
def yX2_begin : MethodName := ⟨RX2, "begin", "(LServerHouse$Message;)V"⟩
abbrev cX2_work : ByteArray := prog_4_method_4_code
def yX2_work : MethodName := ⟨RX2, "work", "(LServerHouse$Core;)V"⟩
abbrev cX2_loseAll : ByteArray := prog_4_method_5_code
def yX2_loseAll : MethodName := ⟨RX2, "loseAll", "()V"⟩
def RX3 : String := "ServerHouse$FileServer"
def TX3 : u_T := fun k => match k with
  | 0 => ("ServerHouse$FileServer", "table", "LServerHouse$FileTable;", true)
  | 1 => ("ServerHouse$FileServer", "open", "LServerHouse$OpenFiles;", true)
  | 2 => ("ServerHouse$FileServer", "waiting", "Z", false)
  | 3 => ("ServerHouse$FileServer", "numbers", "[I", true)
  | 4 => ("ServerHouse$FileServer", "toldLife", "I", false)
  | 5 => ("ServerHouse$FileServer", "reading", "Z", false)
  | 6 => ("ServerHouse$FileServer", "caller", "I", false)
  | 7 => ("ServerHouse$FileServer", "descriptor", "I", false)
  | 8 => ("ServerHouse$FileServer", "value", "I", false)
  | 9 => ("ServerHouse$FileServer", "request", "I", false)
  | _ => ("ServerHouse$FileServer", "block", "I", false)
def tyX3 : Nat → FieldType := fun k => match k with
  | 0 => .object "ServerHouse$FileTable"
  | 1 => .object "ServerHouse$OpenFiles"
  | 2 => .boolean
  | 3 => .array .int
  | 4 => .int
  | 5 => .boolean
  | 6 => .int
  | 7 => .int
  | 8 => .int
  | 9 => .int
  | _ => .int
abbrev wsX30 : List Cond := u_ws RX3 TX3 11
theorem nmX3 : ∀ a, a < 11 → ∀ b, b < 11 → a ≠ b → (TX3 a).2.1 ≠ (TX3 b).2.1 := by decide +kernel
theorem tyX3_ok : ∀ k, k < 11 → parseFieldDescriptor (TX3 k).2.2.1 = some (tyX3 k) := by decide +kernel
abbrev cX3_init : ByteArray := prog_5_method_1_code
def yX3_init : MethodName := ⟨RX3, "<init>", "()V"⟩
abbrev cX3_takeTurn : ByteArray := prog_5_method_2_code
def yX3_takeTurn : MethodName := ⟨RX3, "takeTurn", "(LServerHouse$Core;)V"⟩
abbrev cX3_handle : ByteArray := prog_5_method_3_code
def yX3_handle : MethodName := ⟨RX3, "handle", "(IIII)I"⟩
abbrev cX3_openFile : ByteArray := prog_5_method_4_code
def yX3_openFile : MethodName := ⟨RX3, "openFile", "(II)I"⟩
abbrev cX3_removeFile : ByteArray := prog_5_method_5_code
def yX3_removeFile : MethodName := ⟨RX3, "removeFile", "(I)I"⟩
abbrev cX3_read : ByteArray := prog_5_method_6_code
def yX3_read : MethodName := ⟨RX3, "read", "(LServerHouse$Core;II)V"⟩
abbrev cX3_write : ByteArray := prog_5_method_7_code
def yX3_write : MethodName := ⟨RX3, "write", "(LServerHouse$Core;III)V"⟩
abbrev cX3_whyNotWrite : ByteArray := prog_5_method_8_code
def yX3_whyNotWrite : MethodName := ⟨RX3, "whyNotWrite", "(II)I"⟩
abbrev cX3_takeInHand : ByteArray := prog_5_method_9_code
def yX3_takeInHand : MethodName := ⟨RX3, "takeInHand", "(IIZI)V"⟩
abbrev cX3_ask : ByteArray := prog_5_method_10_code
def yX3_ask : MethodName := ⟨RX3, "ask", "(LServerHouse$Core;I)V"⟩
abbrev cX3_hearOfLife : ByteArray := prog_5_method_11_code
def yX3_hearOfLife : MethodName := ⟨RX3, "hearOfLife", "(LServerHouse$Core;I)V"⟩
abbrev cX3_goOn : ByteArray := prog_5_method_12_code
def yX3_goOn : MethodName := ⟨RX3, "goOn", "(LServerHouse$Core;[I)V"⟩
def RX4 : String := "ServerHouse$FileTable"
def TX4 : u_T := fun k => match k with
  | 0 => ("ServerHouse$FileTable", "there", "[Z", true)
  | 1 => ("ServerHouse$FileTable", "sizes", "[I", true)
  | 2 => ("ServerHouse$FileTable", "blocks", "[I", true)
  | 3 => ("ServerHouse$FileTable", "taken", "[Z", true)
  | 4 => ("ServerHouse$FileTable", "files", "I", false)
  | _ => ("ServerHouse$FileTable", "freeBlocks", "I", false)
def tyX4 : Nat → FieldType := fun k => match k with
  | 0 => .array .boolean
  | 1 => .array .int
  | 2 => .array .int
  | 3 => .array .boolean
  | 4 => .int
  | _ => .int
abbrev wsX40 : List Cond := u_ws RX4 TX4 6
theorem nmX4 : ∀ a, a < 6 → ∀ b, b < 6 → a ≠ b → (TX4 a).2.1 ≠ (TX4 b).2.1 := by decide +kernel
theorem tyX4_ok : ∀ k, k < 6 → parseFieldDescriptor (TX4 k).2.2.1 = some (tyX4 k) := by decide +kernel
abbrev cX4_init : ByteArray := prog_6_method_1_code
def yX4_init : MethodName := ⟨RX4, "<init>", "()V"⟩
abbrev cX4_has : ByteArray := prog_6_method_2_code
def yX4_has : MethodName := ⟨RX4, "has", "(I)Z"⟩
abbrev cX4_sizeOf : ByteArray := prog_6_method_3_code
def yX4_sizeOf : MethodName := ⟨RX4, "sizeOf", "(I)I"⟩
abbrev cX4_blockOf : ByteArray := prog_6_method_4_code
def yX4_blockOf : MethodName := ⟨RX4, "blockOf", "(IJ)I"⟩
abbrev cX4_make : ByteArray := prog_6_method_5_code
def yX4_make : MethodName := ⟨RX4, "make", "(I)V"⟩
abbrev cX4_discard : ByteArray := prog_6_method_6_code
def yX4_discard : MethodName := ⟨RX4, "discard", "(I)V"⟩
abbrev cX4_release : ByteArray := prog_6_method_7_code
def yX4_release : MethodName := ⟨RX4, "release", "(I)V"⟩
abbrev cX4_needsBlock : ByteArray := prog_6_method_8_code
def yX4_needsBlock : MethodName := ⟨RX4, "needsBlock", "(II)Z"⟩
abbrev cX4_takeBlock : ByteArray := prog_6_method_9_code
def yX4_takeBlock : MethodName := ⟨RX4, "takeBlock", "(II)I"⟩
abbrev cX4_growOver : ByteArray := prog_6_method_10_code
def yX4_growOver : MethodName := ⟨RX4, "growOver", "(II)V"⟩
def RX5 : String := "ServerHouse$Keeper"
def TX5 : u_T := fun k => match k with
  | 0 => ("ServerHouse$Keeper", "turns", "I", false)
  | 1 => ("ServerHouse$Keeper", "deadTurns", "I", false)
  | _ => ("ServerHouse$Keeper", "unanswered", "Z", false)
def tyX5 : Nat → FieldType := fun k => match k with
  | 0 => .int
  | 1 => .int
  | _ => .boolean
abbrev wsX50 : List Cond := u_ws RX5 TX5 3
theorem nmX5 : ∀ a, a < 3 → ∀ b, b < 3 → a ≠ b → (TX5 a).2.1 ≠ (TX5 b).2.1 := by decide +kernel
theorem tyX5_ok : ∀ k, k < 3 → parseFieldDescriptor (TX5 k).2.2.1 = some (tyX5 k) := by decide +kernel
abbrev cX5_init : ByteArray := prog_7_method_1_code
def yX5_init : MethodName := ⟨RX5, "<init>", "()V"⟩
abbrev cX5_takeTurn : ByteArray := prog_7_method_2_code
def yX5_takeTurn : MethodName := ⟨RX5, "takeTurn", "(LServerHouse$Core;)Z"⟩
abbrev cX5_check : ByteArray := prog_7_method_3_code
def yX5_check : MethodName := ⟨RX5, "check", "(LServerHouse$Core;)Z"⟩
abbrev cX5_watchDead : ByteArray := prog_7_method_4_code
def yX5_watchDead : MethodName := ⟨RX5, "watchDead", "(LServerHouse$Core;)V"⟩
def RX6 : String := "ServerHouse$Message"
def TX6 : u_T := fun k => match k with
  | 0 => ("ServerHouse$Message", "numbers", "[I", true)
  | 1 => ("ServerHouse$Message", "sender", "I", false)
  | 2 => ("ServerHouse$Message", "kind", "I", false)
  | 3 => ("ServerHouse$Message", "a", "I", false)
  | 4 => ("ServerHouse$Message", "b", "I", false)
  | 5 => ("ServerHouse$Message", "c", "I", false)
  | 6 => ("ServerHouse$Message", "life", "I", false)
  | _ => ("ServerHouse$Message", "heldFor", "I", false)
def tyX6 : Nat → FieldType := fun k => match k with
  | 0 => .array .int
  | 1 => .int
  | 2 => .int
  | 3 => .int
  | 4 => .int
  | 5 => .int
  | 6 => .int
  | _ => .int
abbrev wsX60 : List Cond := u_ws RX6 TX6 8
theorem nmX6 : ∀ a, a < 8 → ∀ b, b < 8 → a ≠ b → (TX6 a).2.1 ≠ (TX6 b).2.1 := by decide +kernel
theorem tyX6_ok : ∀ k, k < 8 → parseFieldDescriptor (TX6 k).2.2.1 = some (tyX6 k) := by decide +kernel
abbrev cX6_init : ByteArray := prog_8_method_1_code
def yX6_init : MethodName := ⟨RX6, "<init>", "()V"⟩
abbrev cX6_write : ByteArray := prog_8_method_2_code
def yX6_write : MethodName := ⟨RX6, "write", "(IIII)V"⟩
abbrev cX6_setNumbers : ByteArray := prog_8_method_3_code
def yX6_setNumbers : MethodName := ⟨RX6, "setNumbers", "([II)V"⟩
abbrev cX6_copy : ByteArray := prog_8_method_4_code
def yX6_copy : MethodName := ⟨RX6, "copy", "(LServerHouse$Message;)V"⟩
def RX7 : String := "ServerHouse$OpenFiles"
def TX7 : u_T := fun k => match k with
  | 0 => ("ServerHouse$OpenFiles", "files", "[I", true)
  | _ => ("ServerHouse$OpenFiles", "places", "[I", true)
def tyX7 : Nat → FieldType := fun k => match k with
  | 0 => .array .int
  | _ => .array .int
abbrev wsX70 : List Cond := u_ws RX7 TX7 2
theorem nmX7 : ∀ a, a < 2 → ∀ b, b < 2 → a ≠ b → (TX7 a).2.1 ≠ (TX7 b).2.1 := by decide +kernel
theorem tyX7_ok : ∀ k, k < 2 → parseFieldDescriptor (TX7 k).2.2.1 = some (tyX7 k) := by decide +kernel
abbrev cX7_init : ByteArray := prog_9_method_1_code
def yX7_init : MethodName := ⟨RX7, "<init>", "()V"⟩
abbrev cX7_slot : ByteArray := prog_9_method_2_code
def yX7_slot : MethodName := ⟨RX7, "slot", "(II)I"⟩
abbrev cX7_fileAt : ByteArray := prog_9_method_3_code
def yX7_fileAt : MethodName := ⟨RX7, "fileAt", "(II)I"⟩
abbrev cX7_placeAt : ByteArray := prog_9_method_4_code
def yX7_placeAt : MethodName := ⟨RX7, "placeAt", "(II)I"⟩
abbrev cX7_setPlace : ByteArray := prog_9_method_5_code
def yX7_setPlace : MethodName := ⟨RX7, "setPlace", "(III)V"⟩
abbrev cX7_leastFree : ByteArray := prog_9_method_6_code
def yX7_leastFree : MethodName := ⟨RX7, "leastFree", "(I)I"⟩
abbrev cX7_howMany : ByteArray := prog_9_method_7_code
def yX7_howMany : MethodName := ⟨RX7, "howMany", "(I)I"⟩
abbrev cX7_anybodyHas : ByteArray := prog_9_method_8_code
def yX7_anybodyHas : MethodName := ⟨RX7, "anybodyHas", "(I)Z"⟩
abbrev cX7_set : ByteArray := prog_9_method_9_code
def yX7_set : MethodName := ⟨RX7, "set", "(IIII)V"⟩
abbrev cX7_closeAll : ByteArray := prog_9_method_10_code
def yX7_closeAll : MethodName := ⟨RX7, "closeAll", "(I)V"⟩
abbrev cX7_copyAll : ByteArray := prog_9_method_11_code
def yX7_copyAll : MethodName := ⟨RX7, "copyAll", "(II)V"⟩
def RX8 : String := "ServerHouse$ProcessServer"
def TX8 : u_T := fun k => match k with
  | 0 => ("ServerHouse$ProcessServer", "parents", "[I", true)
  | 1 => ("ServerHouse$ProcessServer", "codes", "[I", true)
  | 2 => ("ServerHouse$ProcessServer", "ended", "[Z", true)
  | 3 => ("ServerHouse$ProcessServer", "waits", "[Z", true)
  | 4 => ("ServerHouse$ProcessServer", "waiting", "Z", false)
  | 5 => ("ServerHouse$ProcessServer", "forking", "Z", false)
  | 6 => ("ServerHouse$ProcessServer", "subject", "I", false)
  | _ => ("ServerHouse$ProcessServer", "caller", "I", false)
def tyX8 : Nat → FieldType := fun k => match k with
  | 0 => .array .int
  | 1 => .array .int
  | 2 => .array .boolean
  | 3 => .array .boolean
  | 4 => .boolean
  | 5 => .boolean
  | 6 => .int
  | _ => .int
abbrev wsX80 : List Cond := u_ws RX8 TX8 8
theorem nmX8 : ∀ a, a < 8 → ∀ b, b < 8 → a ≠ b → (TX8 a).2.1 ≠ (TX8 b).2.1 := by decide +kernel
theorem tyX8_ok : ∀ k, k < 8 → parseFieldDescriptor (TX8 k).2.2.1 = some (tyX8 k) := by decide +kernel
abbrev cX8_init : ByteArray := prog_10_method_1_code
def yX8_init : MethodName := ⟨RX8, "<init>", "()V"⟩
abbrev cX8_hasEnded : ByteArray := prog_10_method_2_code
def yX8_hasEnded : MethodName := ⟨RX8, "hasEnded", "(I)Z"⟩
abbrev cX8_parentOf : ByteArray := prog_10_method_3_code
def yX8_parentOf : MethodName := ⟨RX8, "parentOf", "(I)I"⟩
abbrev cX8_codeOf : ByteArray := prog_10_method_4_code
def yX8_codeOf : MethodName := ⟨RX8, "codeOf", "(I)I"⟩
abbrev cX8_takeTurn : ByteArray := prog_10_method_5_code
def yX8_takeTurn : MethodName := ⟨RX8, "takeTurn", "(LServerHouse$Core;LServerHouse$Users;)V"⟩
abbrev cX8_fork : ByteArray := prog_10_method_6_code
def yX8_fork : MethodName := ⟨RX8, "fork", "(LServerHouse$Core;I)V"⟩
abbrev cX8_end : ByteArray := prog_10_method_7_code
def yX8_end : MethodName := ⟨RX8, "end", "(LServerHouse$Core;LServerHouse$Users;III)V"⟩
abbrev cX8_waitFor : ByteArray := prog_10_method_8_code
def yX8_waitFor : MethodName := ⟨RX8, "waitFor", "(ZII)V"⟩
abbrev cX8_await : ByteArray := prog_10_method_9_code
def yX8_await : MethodName := ⟨RX8, "await", "(LServerHouse$Core;I)V"⟩
abbrev cX8_collect : ByteArray := prog_10_method_10_code
def yX8_collect : MethodName := ⟨RX8, "collect", "(I)I"⟩
abbrev cX8_goOn : ByteArray := prog_10_method_11_code
def yX8_goOn : MethodName := ⟨RX8, "goOn", "(LServerHouse$Core;)V"⟩
abbrev cX8_leaveChildren : ByteArray := prog_10_method_12_code
def yX8_leaveChildren : MethodName := ⟨RX8, "leaveChildren", "(I)V"⟩
def RX9 : String := "ServerHouse$Users"
def TX9 : u_T := fun k => match k with
  | 0 => ("ServerHouse$Users", "calling", "[Z", true)
  | 1 => ("ServerHouse$Users", "latest", "[I", true)
  | _ => ("ServerHouse$Users", "answers", "[I", true)
def tyX9 : Nat → FieldType := fun k => match k with
  | 0 => .array .boolean
  | 1 => .array .int
  | _ => .array .int
abbrev wsX90 : List Cond := u_ws RX9 TX9 3
theorem nmX9 : ∀ a, a < 3 → ∀ b, b < 3 → a ≠ b → (TX9 a).2.1 ≠ (TX9 b).2.1 := by decide +kernel
theorem tyX9_ok : ∀ k, k < 3 → parseFieldDescriptor (TX9 k).2.2.1 = some (tyX9 k) := by decide +kernel
abbrev cX9_init : ByteArray := prog_11_method_1_code
def yX9_init : MethodName := ⟨RX9, "<init>", "()V"⟩
abbrev cX9_hasCall : ByteArray := prog_11_method_2_code
def yX9_hasCall : MethodName := ⟨RX9, "hasCall", "(I)Z"⟩
abbrev cX9_setCall : ByteArray := prog_11_method_3_code
def yX9_setCall : MethodName := ⟨RX9, "setCall", "(IZ)V"⟩
abbrev cX9_takeTurn : ByteArray := prog_11_method_4_code
def yX9_takeTurn : MethodName := ⟨RX9, "takeTurn", "(LServerHouse$Core;I)V"⟩
def RX10 : String := "ServerHouse"
def TX10 : u_T := fun k => match k with
  | 0 => ("ServerHouse", "core", "LServerHouse$Core;", true)
  | 1 => ("ServerHouse", "keeper", "LServerHouse$Keeper;", true)
  | 2 => ("ServerHouse", "driver", "LServerHouse$Driver;", true)
  | 3 => ("ServerHouse", "files", "LServerHouse$FileServer;", true)
  | 4 => ("ServerHouse", "processes", "LServerHouse$ProcessServer;", true)
  | 5 => ("ServerHouse", "users", "LServerHouse$Users;", true)
  | 6 => ("ServerHouse", "stepsDone", "I", false)
  | 7 => ("ServerHouse", "next", "I", false)
  | _ => ("ServerHouse", "crashes", "I", false)
def tyX10 : Nat → FieldType := fun k => match k with
  | 0 => .object "ServerHouse$Core"
  | 1 => .object "ServerHouse$Keeper"
  | 2 => .object "ServerHouse$Driver"
  | 3 => .object "ServerHouse$FileServer"
  | 4 => .object "ServerHouse$ProcessServer"
  | 5 => .object "ServerHouse$Users"
  | 6 => .int
  | 7 => .int
  | _ => .int
abbrev wsX100 : List Cond := u_ws RX10 TX10 9
theorem nmX10 : ∀ a, a < 9 → ∀ b, b < 9 → a ≠ b → (TX10 a).2.1 ≠ (TX10 b).2.1 := by decide +kernel
theorem tyX10_ok : ∀ k, k < 9 → parseFieldDescriptor (TX10 k).2.2.1 = some (tyX10 k) := by decide +kernel
abbrev cX10_init : ByteArray := prog_1_method_1_code
def yX10_init : MethodName := ⟨RX10, "<init>", "()V"⟩
abbrev cX10_call : ByteArray := prog_1_method_2_code
def yX10_call : MethodName := ⟨RX10, "call", "(IIII)I"⟩
abbrev cX10_steps : ByteArray := prog_1_method_3_code
def yX10_steps : MethodName := ⟨RX10, "steps", "(I)I"⟩
abbrev cX10_until : ByteArray := prog_1_method_4_code
def yX10_until : MethodName := ⟨RX10, "until", "(II)I"⟩
abbrev cX10_crash : ByteArray := prog_1_method_5_code
def yX10_crash : MethodName := ⟨RX10, "crash", "()Z"⟩
abbrev cX10_hang : ByteArray := prog_1_method_6_code
def yX10_hang : MethodName := ⟨RX10, "hang", "()Z"⟩
abbrev cX10_force : ByteArray := prog_1_method_7_code
def yX10_force : MethodName := ⟨RX10, "force", "(II)I"⟩
abbrev cX10_user : ByteArray := prog_1_method_8_code
def yX10_user : MethodName := ⟨RX10, "user", "(II)I"⟩
abbrev cX10_descriptor : ByteArray := prog_1_method_9_code
def yX10_descriptor : MethodName := ⟨RX10, "descriptor", "(III)I"⟩
abbrev cX10_file : ByteArray := prog_1_method_10_code
def yX10_file : MethodName := ⟨RX10, "file", "(II)I"⟩
abbrev cX10_disk : ByteArray := prog_1_method_11_code
def yX10_disk : MethodName := ⟨RX10, "disk", "(II)I"⟩
abbrev cX10_inbox : ByteArray := prog_1_method_12_code
def yX10_inbox : MethodName := ⟨RX10, "inbox", "(I)I"⟩
abbrev cX10_message : ByteArray := prog_1_method_13_code
def yX10_message : MethodName := ⟨RX10, "message", "(III)I"⟩
abbrev cX10_count : ByteArray := prog_1_method_14_code
def yX10_count : MethodName := ⟨RX10, "count", "(I)I"⟩
abbrev cX10_giveTurn : ByteArray := prog_1_method_15_code
def yX10_giveTurn : MethodName := ⟨RX10, "giveTurn", "()V"⟩
abbrev cX10_breakDriver : ByteArray := prog_1_method_16_code
def yX10_breakDriver : MethodName := ⟨RX10, "breakDriver", "()V"⟩
abbrev cX10_isPart : ByteArray := prog_1_method_17_code
def yX10_isPart : MethodName := ⟨RX10, "isPart", "(I)Z"⟩
abbrev cX10_isUser : ByteArray := prog_1_method_18_code
def yX10_isUser : MethodName := ⟨RX10, "isUser", "(I)Z"⟩
def RX11 : String := "ServerHouseModel"
def TX11 : u_T := fun k => match k with
  | 0 => ("ServerHouseModel", "thrown", "I", false)
  | 1 => ("ServerHouseModel", "inbox", "[I", true)
  | 2 => ("ServerHouseModel", "many", "[I", true)
  | 3 => ("ServerHouseModel", "draft", "[I", true)
  | 4 => ("ServerHouseModel", "kept", "[I", true)
  | 5 => ("ServerHouseModel", "keptFor", "[I", true)
  | 6 => ("ServerHouseModel", "forbidden", "I", false)
  | 7 => ("ServerHouseModel", "through", "I", false)
  | 8 => ("ServerHouseModel", "taken", "[I", true)
  | 9 => ("ServerHouseModel", "state", "[I", true)
  | 10 => ("ServerHouseModel", "calls", "[Z", true)
  | 11 => ("ServerHouseModel", "answer", "[I", true)
  | 12 => ("ServerHouseModel", "answers", "[I", true)
  | 13 => ("ServerHouseModel", "parent", "[I", true)
  | 14 => ("ServerHouseModel", "code", "[I", true)
  | 15 => ("ServerHouseModel", "waits", "[Z", true)
  | 16 => ("ServerHouseModel", "fileOf", "[I", true)
  | 17 => ("ServerHouseModel", "placeOf", "[I", true)
  | 18 => ("ServerHouseModel", "there", "[Z", true)
  | 19 => ("ServerHouseModel", "sizeOf", "[I", true)
  | 20 => ("ServerHouseModel", "blockOf", "[I", true)
  | 21 => ("ServerHouseModel", "used", "[Z", true)
  | 22 => ("ServerHouseModel", "disk", "[I", true)
  | 23 => ("ServerHouseModel", "driverLives", "Z", false)
  | 24 => ("ServerHouseModel", "hangs", "Z", false)
  | 25 => ("ServerHouseModel", "life", "I", false)
  | 26 => ("ServerHouseModel", "arm", "I", false)
  | 27 => ("ServerHouseModel", "job", "I", false)
  | 28 => ("ServerHouseModel", "jobBlock", "I", false)
  | 29 => ("ServerHouseModel", "jobNumbers", "[I", true)
  | 30 => ("ServerHouseModel", "crashes", "I", false)
  | 31 => ("ServerHouseModel", "turnsOfKeeper", "I", false)
  | 32 => ("ServerHouseModel", "deadTurns", "I", false)
  | 33 => ("ServerHouseModel", "isAsked", "Z", false)
  | 34 => ("ServerHouseModel", "toldLife", "I", false)
  | 35 => ("ServerHouseModel", "isWaiting", "Z", false)
  | 36 => ("ServerHouseModel", "stage", "I", false)
  | 37 => ("ServerHouseModel", "caller", "I", false)
  | 38 => ("ServerHouseModel", "slot", "I", false)
  | 39 => ("ServerHouseModel", "written", "I", false)
  | 40 => ("ServerHouseModel", "outKind", "I", false)
  | 41 => ("ServerHouseModel", "outBlock", "I", false)
  | 42 => ("ServerHouseModel", "outNumbers", "[I", true)
  | 43 => ("ServerHouseModel", "isHeld", "Z", false)
  | 44 => ("ServerHouseModel", "heldKind", "I", false)
  | 45 => ("ServerHouseModel", "heldBy", "I", false)
  | 46 => ("ServerHouseModel", "heldOf", "I", false)
  | 47 => ("ServerHouseModel", "steps", "I", false)
  | _ => ("ServerHouseModel", "next", "I", false)
def tyX11 : Nat → FieldType := fun k => match k with
  | 0 => .int
  | 1 => .array .int
  | 2 => .array .int
  | 3 => .array .int
  | 4 => .array .int
  | 5 => .array .int
  | 6 => .int
  | 7 => .int
  | 8 => .array .int
  | 9 => .array .int
  | 10 => .array .boolean
  | 11 => .array .int
  | 12 => .array .int
  | 13 => .array .int
  | 14 => .array .int
  | 15 => .array .boolean
  | 16 => .array .int
  | 17 => .array .int
  | 18 => .array .boolean
  | 19 => .array .int
  | 20 => .array .int
  | 21 => .array .boolean
  | 22 => .array .int
  | 23 => .boolean
  | 24 => .boolean
  | 25 => .int
  | 26 => .int
  | 27 => .int
  | 28 => .int
  | 29 => .array .int
  | 30 => .int
  | 31 => .int
  | 32 => .int
  | 33 => .boolean
  | 34 => .int
  | 35 => .boolean
  | 36 => .int
  | 37 => .int
  | 38 => .int
  | 39 => .int
  | 40 => .int
  | 41 => .int
  | 42 => .array .int
  | 43 => .boolean
  | 44 => .int
  | 45 => .int
  | 46 => .int
  | 47 => .int
  | _ => .int
abbrev wsX110 : List Cond := u_ws RX11 TX11 49
theorem nmX11 : ∀ a, a < 49 → ∀ b, b < 49 → a ≠ b → (TX11 a).2.1 ≠ (TX11 b).2.1 := by decide +kernel
theorem tyX11_ok : ∀ k, k < 49 → parseFieldDescriptor (TX11 k).2.2.1 = some (tyX11 k) := by decide +kernel
abbrev cX11_thrown : ByteArray := prog_13_method_1_code
def yX11_thrown : MethodName := ⟨RX11, "thrown", "()I"⟩
abbrev cX11_drafts : ByteArray := prog_13_method_2_code
def yX11_drafts : MethodName := ⟨RX11, "drafts", "(III)V"⟩
abbrev cX11_isUser : ByteArray := prog_13_method_3_code
def yX11_isUser : MethodName := ⟨RX11, "isUser", "(I)Z"⟩
abbrev cX11_isAllowed : ByteArray := prog_13_method_4_code
def yX11_isAllowed : MethodName := ⟨RX11, "isAllowed", "(II)Z"⟩
abbrev cX11_lives : ByteArray := prog_13_method_5_code
def yX11_lives : MethodName := ⟨RX11, "lives", "(I)Z"⟩
abbrev cX11_send : ByteArray := prog_13_method_6_code
def yX11_send : MethodName := ⟨RX11, "send", "(IIZ)I"⟩
abbrev cX11_sends : ByteArray := prog_13_method_7_code
def yX11_sends : MethodName := ⟨RX11, "sends", "(II)V"⟩
abbrev cX11_sendsAgain : ByteArray := prog_13_method_8_code
def yX11_sendsAgain : MethodName := ⟨RX11, "sendsAgain", "(I)Z"⟩
abbrev cX11_takeOut : ByteArray := prog_13_method_9_code
def yX11_takeOut : MethodName := ⟨RX11, "takeOut", "(II)V"⟩
abbrev cX11_drop : ByteArray := prog_13_method_10_code
def yX11_drop : MethodName := ⟨RX11, "drop", "(II)V"⟩
abbrev cX11_field : ByteArray := prog_13_method_11_code
def yX11_field : MethodName := ⟨RX11, "field", "(III)I"⟩
abbrev cX11_init : ByteArray := prog_13_method_12_code
def yX11_init : MethodName := ⟨RX11, "<init>", "()V"⟩
abbrev cX11_crashesNow : ByteArray := prog_13_method_13_code
def yX11_crashesNow : MethodName := ⟨RX11, "crashesNow", "()V"⟩
abbrev cX11_keeper : ByteArray := prog_13_method_14_code
def yX11_keeper : MethodName := ⟨RX11, "keeper", "()V"⟩
abbrev cX11_starts : ByteArray := prog_13_method_15_code
def yX11_starts : MethodName := ⟨RX11, "starts", "()V"⟩
abbrev cX11_driver : ByteArray := prog_13_method_16_code
def yX11_driver : MethodName := ⟨RX11, "driver", "()V"⟩
abbrev cX11_works : ByteArray := prog_13_method_17_code
def yX11_works : MethodName := ⟨RX11, "works", "()V"⟩
abbrev cX11_files : ByteArray := prog_13_method_18_code
def yX11_files : MethodName := ⟨RX11, "files", "()V"⟩
abbrev cX11_asksDriver : ByteArray := prog_13_method_19_code
def yX11_asksDriver : MethodName := ⟨RX11, "asksDriver", "()V"⟩
abbrev cX11_tells : ByteArray := prog_13_method_20_code
def yX11_tells : MethodName := ⟨RX11, "tells", "(III)V"⟩
abbrev cX11_copies : ByteArray := prog_13_method_21_code
def yX11_copies : MethodName := ⟨RX11, "copies", "(II)V"⟩
abbrev cX11_closesAll : ByteArray := prog_13_method_22_code
def yX11_closesAll : MethodName := ⟨RX11, "closesAll", "(I)V"⟩
abbrev cX11_begins : ByteArray := prog_13_method_23_code
def yX11_begins : MethodName := ⟨RX11, "begins", "(IIII)V"⟩
abbrev cX11_opens : ByteArray := prog_13_method_24_code
def yX11_opens : MethodName := ⟨RX11, "opens", "(II)I"⟩
abbrev cX11_filesThere : ByteArray := prog_13_method_25_code
def yX11_filesThere : MethodName := ⟨RX11, "filesThere", "()I"⟩
abbrev cX11_removes : ByteArray := prog_13_method_26_code
def yX11_removes : MethodName := ⟨RX11, "removes", "(I)I"⟩
abbrev cX11_reads : ByteArray := prog_13_method_27_code
def yX11_reads : MethodName := ⟨RX11, "reads", "(III)V"⟩
abbrev cX11_writes : ByteArray := prog_13_method_28_code
def yX11_writes : MethodName := ⟨RX11, "writes", "(IIII)V"⟩
abbrev cX11_goesOn : ByteArray := prog_13_method_29_code
def yX11_goesOn : MethodName := ⟨RX11, "goesOn", "()V"⟩
abbrev cX11_processes : ByteArray := prog_13_method_30_code
def yX11_processes : MethodName := ⟨RX11, "processes", "()V"⟩
abbrev cX11_forks : ByteArray := prog_13_method_31_code
def yX11_forks : MethodName := ⟨RX11, "forks", "(I)V"⟩
abbrev cX11_holds : ByteArray := prog_13_method_32_code
def yX11_holds : MethodName := ⟨RX11, "holds", "(III)V"⟩
abbrev cX11_ends : ByteArray := prog_13_method_33_code
def yX11_ends : MethodName := ⟨RX11, "ends", "(IIII)V"⟩
abbrev cX11_done : ByteArray := prog_13_method_34_code
def yX11_done : MethodName := ⟨RX11, "done", "()V"⟩
abbrev cX11_freed : ByteArray := prog_13_method_35_code
def yX11_freed : MethodName := ⟨RX11, "freed", "(I)I"⟩
abbrev cX11_waitsFor : ByteArray := prog_13_method_36_code
def yX11_waitsFor : MethodName := ⟨RX11, "waitsFor", "(I)V"⟩
abbrev cX11_ofUser : ByteArray := prog_13_method_37_code
def yX11_ofUser : MethodName := ⟨RX11, "ofUser", "(I)V"⟩
abbrev cX11_turn : ByteArray := prog_13_method_38_code
def yX11_turn : MethodName := ⟨RX11, "turn", "()V"⟩
abbrev cX11_steps : ByteArray := prog_13_method_39_code
def yX11_steps : MethodName := ⟨RX11, "steps", "(I)I"⟩
abbrev cX11_until : ByteArray := prog_13_method_40_code
def yX11_until : MethodName := ⟨RX11, "until", "(II)I"⟩
abbrev cX11_call : ByteArray := prog_13_method_41_code
def yX11_call : MethodName := ⟨RX11, "call", "(IIII)I"⟩
abbrev cX11_crash : ByteArray := prog_13_method_42_code
def yX11_crash : MethodName := ⟨RX11, "crash", "()Z"⟩
abbrev cX11_hang : ByteArray := prog_13_method_43_code
def yX11_hang : MethodName := ⟨RX11, "hang", "()Z"⟩
abbrev cX11_isPart : ByteArray := prog_13_method_44_code
def yX11_isPart : MethodName := ⟨RX11, "isPart", "(I)Z"⟩
abbrev cX11_force : ByteArray := prog_13_method_45_code
def yX11_force : MethodName := ⟨RX11, "force", "(II)I"⟩
abbrev cX11_user : ByteArray := prog_13_method_46_code
def yX11_user : MethodName := ⟨RX11, "user", "(II)I"⟩
abbrev cX11_descriptor : ByteArray := prog_13_method_47_code
def yX11_descriptor : MethodName := ⟨RX11, "descriptor", "(III)I"⟩
abbrev cX11_file : ByteArray := prog_13_method_48_code
def yX11_file : MethodName := ⟨RX11, "file", "(II)I"⟩
abbrev cX11_disk : ByteArray := prog_13_method_49_code
def yX11_disk : MethodName := ⟨RX11, "disk", "(II)I"⟩
abbrev cX11_inbox : ByteArray := prog_13_method_50_code
def yX11_inbox : MethodName := ⟨RX11, "inbox", "(I)I"⟩
abbrev cX11_message : ByteArray := prog_13_method_51_code
def yX11_message : MethodName := ⟨RX11, "message", "(III)I"⟩
abbrev cX11_count : ByteArray := prog_13_method_52_code
def yX11_count : MethodName := ⟨RX11, "count", "(I)I"⟩
def RJ9 : String := "java/lang/Math"
abbrev cJ9_floorMod_7cf53 : ByteArray := prog_15_method_50_code
def yJ9_floorMod_7cf53 : MethodName := ⟨RJ9, "floorMod", "(II)I"⟩
def RL : String := "ServerHouseLaw"
abbrev cL_user : ByteArray := method_3_code
def yL_user : MethodName := ⟨RL, "user", "(LServerHouse;II[J)I"⟩
abbrev cL_disk : ByteArray := method_4_code
def yL_disk : MethodName := ⟨RL, "disk", "(LServerHouse;II[J)I"⟩
abbrev cL_law : ByteArray := code
def yL_law : MethodName := ⟨RL, "law", "([I)Z"⟩
abbrev vwCl : List vw_C := [(RX0, TX0, 2), (RX1, TX1, 7), (RX2, TX2, 6), (RX3, TX3, 11), (RX4, TX4, 6), (RX5, TX5, 3), (RX6, TX6, 8), (RX7, TX7, 2), (RX8, TX8, 8), (RX9, TX9, 3), (RX10, TX10, 9), (RX11, TX11, 49)]
/-- the words of the tables that keep -/
def gw : List Cond := lw_tbl.filter goodWord
theorem gm_t {w : Cond} (h : w ∈ tables_1) (g : goodWord w = true) : w ∈ gw := List.mem_filter.mpr ⟨List.mem_append_right _ h, g⟩
theorem tm1 {i : Nat} {w : Cond} (h : tables_1_1[i]? = some w) : w ∈ tables_1 := by
  have h := List.mem_of_getElem? h
  exact List.mem_append_left _ h
theorem gm1 {i : Nat} {w : Cond} (h : tables_1_1[i]? = some w) (g : goodWord w = true) : w ∈ gw := gm_t (tm1 h) g
theorem tm2 {i : Nat} {w : Cond} (h : tables_1_2[i]? = some w) : w ∈ tables_1 := by
  have h := List.mem_of_getElem? h
  exact List.mem_append_right _ (List.mem_append_left _ h)
theorem gm2 {i : Nat} {w : Cond} (h : tables_1_2[i]? = some w) (g : goodWord w = true) : w ∈ gw := gm_t (tm2 h) g
theorem tm3 {i : Nat} {w : Cond} (h : tables_1_3[i]? = some w) : w ∈ tables_1 := by
  have h := List.mem_of_getElem? h
  exact List.mem_append_right _ (List.mem_append_right _ (List.mem_append_left _ h))
theorem gm3 {i : Nat} {w : Cond} (h : tables_1_3[i]? = some w) (g : goodWord w = true) : w ∈ gw := gm_t (tm3 h) g
theorem tm4 {i : Nat} {w : Cond} (h : tables_1_4[i]? = some w) : w ∈ tables_1 := by
  have h := List.mem_of_getElem? h
  exact List.mem_append_right _ (List.mem_append_right _ (List.mem_append_right _ (List.mem_append_left _ h)))
theorem gm4 {i : Nat} {w : Cond} (h : tables_1_4[i]? = some w) (g : goodWord w = true) : w ∈ gw := gm_t (tm4 h) g
theorem tm5 {i : Nat} {w : Cond} (h : tables_1_5[i]? = some w) : w ∈ tables_1 := by
  have h := List.mem_of_getElem? h
  exact List.mem_append_right _ (List.mem_append_right _ (List.mem_append_right _ (List.mem_append_right _ (h))))
theorem gm5 {i : Nat} {w : Cond} (h : tables_1_5[i]? = some w) (g : goodWord w = true) : w ∈ gw := gm_t (tm5 h) g
theorem gp1 {i : Nat} {q : MethodName × Nat} (h : lw_privs_1[i]? = some q) (g : goodWord (Cond.selects q.1.cls q.1 q.1) = true) : Cond.selects q.1.cls q.1 q.1 ∈ gw := by
  have h := List.mem_of_getElem? h
  exact List.mem_filter.mpr ⟨List.mem_append_left _ (List.mem_map.mpr ⟨q, List.mem_append_left _ h, rfl⟩), g⟩
theorem gp2 {i : Nat} {q : MethodName × Nat} (h : lw_privs_2[i]? = some q) (g : goodWord (Cond.selects q.1.cls q.1 q.1) = true) : Cond.selects q.1.cls q.1 q.1 ∈ gw := by
  have h := List.mem_of_getElem? h
  exact List.mem_filter.mpr ⟨List.mem_append_left _ (List.mem_map.mpr ⟨q, List.mem_append_right _ (List.mem_append_left _ h), rfl⟩), g⟩
theorem gp3 {i : Nat} {q : MethodName × Nat} (h : lw_privs_3[i]? = some q) (g : goodWord (Cond.selects q.1.cls q.1 q.1) = true) : Cond.selects q.1.cls q.1 q.1 ∈ gw := by
  have h := List.mem_of_getElem? h
  exact List.mem_filter.mpr ⟨List.mem_append_left _ (List.mem_map.mpr ⟨q, List.mem_append_right _ (List.mem_append_right _ (List.mem_append_left _ h)), rfl⟩), g⟩
theorem gp4 {i : Nat} {q : MethodName × Nat} (h : lw_privs_4[i]? = some q) (g : goodWord (Cond.selects q.1.cls q.1 q.1) = true) : Cond.selects q.1.cls q.1 q.1 ∈ gw := by
  have h := List.mem_of_getElem? h
  exact List.mem_filter.mpr ⟨List.mem_append_left _ (List.mem_map.mpr ⟨q, List.mem_append_right _ (List.mem_append_right _ (List.mem_append_right _ (h))), rfl⟩), g⟩
theorem in_L : Cond.initialized RL ∈ gw := gm1 (i := 0) rfl rfl
theorem in_X10 : Cond.initialized RX10 ∈ gw := gm1 (i := 1) rfl rfl
theorem in_X1 : Cond.initialized RX1 ∈ gw := gm1 (i := 2) rfl rfl
theorem in_X6 : Cond.initialized RX6 ∈ gw := gm1 (i := 3) rfl rfl
theorem in_X0 : Cond.initialized RX0 ∈ gw := gm1 (i := 4) rfl rfl
theorem in_X5 : Cond.initialized RX5 ∈ gw := gm1 (i := 5) rfl rfl
theorem in_X2 : Cond.initialized RX2 ∈ gw := gm1 (i := 6) rfl rfl
theorem in_X3 : Cond.initialized RX3 ∈ gw := gm1 (i := 7) rfl rfl
theorem in_X4 : Cond.initialized RX4 ∈ gw := gm1 (i := 8) rfl rfl
theorem in_X7 : Cond.initialized RX7 ∈ gw := gm1 (i := 9) rfl rfl
theorem in_X8 : Cond.initialized RX8 ∈ gw := gm1 (i := 10) rfl rfl
theorem in_X9 : Cond.initialized RX9 ∈ gw := gm1 (i := 11) rfl rfl
theorem in_X11 : Cond.initialized RX11 ∈ gw := gm1 (i := 12) rfl rfl
theorem in_J9 : Cond.initialized RJ9 ∈ gw := gm1 (i := 13) rfl rfl
theorem cl_L_8 : Cond.classLink RL 8 RX10 ∈ gw := gm1 (i := 18) rfl rfl
theorem is_X10 : Cond.instantiable RX10 9 ∈ gw := gm1 (i := 19) rfl rfl
theorem ml_L_18 : Cond.methodLink RL 18 yX10_init ∈ gw := gm1 (i := 20) rfl rfl
theorem im_X10_init : Cond.instanceMethod yX10_init ∈ gw := gm1 (i := 21) rfl rfl
theorem cd_X10_init : Cond.code yX10_init cX10_init 1 (none : Option FieldType) ∈ gw := gm1 (i := 22) rfl rfl
theorem ml_X10_3 : Cond.methodLink RX10 3 objectInit ∈ gw := gm1 (i := 23) rfl rfl
theorem im_obj : Cond.instanceMethod objectInit ∈ gw := gm1 (i := 24) rfl rfl
theorem cd_obj : Cond.code objectInit ⟨#[0xb1]⟩ 1 none ∈ gw := gm1 (i := 25) rfl rfl
theorem cl_X10_9 : Cond.classLink RX10 9 RX1 ∈ gw := gm1 (i := 26) rfl rfl
theorem is_X1 : Cond.instantiable RX1 7 ∈ gw := gm1 (i := 27) rfl rfl
theorem ml_X10_11 : Cond.methodLink RX10 11 yX1_init ∈ gw := gm1 (i := 28) rfl rfl
theorem im_X1_init : Cond.instanceMethod yX1_init ∈ gw := gm1 (i := 29) rfl rfl
theorem cd_X1_init : Cond.code yX1_init cX1_init 2 (none : Option FieldType) ∈ gw := gm1 (i := 30) rfl rfl
theorem ml_X1_3 : Cond.methodLink RX1 3 objectInit ∈ gw := gm1 (i := 31) rfl rfl
theorem cl_X1_9 : Cond.classLink RX1 9 RX0 ∈ gw := gm1 (i := 32) rfl rfl
theorem ao_X0 : Cond.arrayOver (.object RX0) ∈ tables_1 := tm1 (i := 33) rfl
theorem cl_X1_21 : Cond.classLink RX1 21 RX6 ∈ gw := gm1 (i := 34) rfl rfl
theorem ao_X6 : Cond.arrayOver (.object RX6) ∈ tables_1 := tm1 (i := 35) rfl
theorem is_X6 : Cond.instantiable RX6 8 ∈ gw := gm1 (i := 36) rfl rfl
theorem nl_X1_27 : Cond.methodLinkNest RX1 27 yX6_init "ServerHouse" ∈ tables_1 := tm1 (i := 37) rfl
theorem im_X6_init : Cond.instanceMethod yX6_init ∈ gw := gm1 (i := 38) rfl rfl
theorem cd_X6_init : Cond.code yX6_init cX6_init 1 (none : Option FieldType) ∈ gw := gm1 (i := 39) rfl rfl
theorem ml_X6_3 : Cond.methodLink RX6 3 objectInit ∈ gw := gm1 (i := 40) rfl rfl
theorem ac_boolean : Cond.arrayClass .boolean ∈ gw := gm1 (i := 91) rfl rfl
theorem ac_int : Cond.arrayClass .int ∈ gw := gm1 (i := 92) rfl rfl
theorem is_X0 : Cond.instantiable RX0 2 ∈ gw := gm1 (i := 93) rfl rfl
theorem ml_X1_36 : Cond.methodLink RX1 36 yX0_init ∈ gw := gm1 (i := 94) rfl rfl
theorem im_X0_init : Cond.instanceMethod yX0_init ∈ gw := gm1 (i := 95) rfl rfl
theorem cd_X0_init : Cond.code yX0_init cX0_init 2 (none : Option FieldType) ∈ gw := gm1 (i := 96) rfl rfl
theorem ml_X0_3 : Cond.methodLink RX0 3 objectInit ∈ gw := gm1 (i := 97) rfl rfl
theorem cl_X0_9 : Cond.classLink RX0 9 RX6 ∈ gw := gm1 (i := 98) rfl rfl
theorem nl_X0_17 : Cond.methodLinkNest RX0 17 yX6_init "ServerHouse" ∈ tables_1 := tm1 (i := 99) rfl
theorem cl_X10_16 : Cond.classLink RX10 16 RX5 ∈ gw := gm1 (i := 144) rfl rfl
theorem is_X5 : Cond.instantiable RX5 3 ∈ gw := gm1 (i := 145) rfl rfl
theorem nl_X10_18 : Cond.methodLinkNest RX10 18 yX5_init "ServerHouse" ∈ tables_1 := tm1 (i := 146) rfl
theorem im_X5_init : Cond.instanceMethod yX5_init ∈ gw := gm1 (i := 147) rfl rfl
theorem cd_X5_init : Cond.code yX5_init cX5_init 1 (none : Option FieldType) ∈ gw := gm1 (i := 148) rfl rfl
theorem ml_X5_3 : Cond.methodLink RX5 3 objectInit ∈ gw := gm1 (i := 149) rfl rfl
theorem cl_X10_23 : Cond.classLink RX10 23 RX2 ∈ gw := gm1 (i := 162) rfl rfl
theorem is_X2 : Cond.instantiable RX2 6 ∈ gw := gm1 (i := 163) rfl rfl
theorem nl_X10_25 : Cond.methodLinkNest RX10 25 yX2_init "ServerHouse" ∈ tables_1 := tm1 (i := 164) rfl
theorem im_X2_init : Cond.instanceMethod yX2_init ∈ gw := gm1 (i := 165) rfl rfl
theorem cd_X2_init : Cond.code yX2_init cX2_init 1 (none : Option FieldType) ∈ gw := gm1 (i := 166) rfl rfl
theorem ml_X2_3 : Cond.methodLink RX2 3 objectInit ∈ gw := gm1 (i := 167) rfl rfl
theorem cl_X10_30 : Cond.classLink RX10 30 RX3 ∈ gw := gm1 (i := 191) rfl rfl
theorem is_X3 : Cond.instantiable RX3 11 ∈ gw := gm1 (i := 192) rfl rfl
theorem nl_X10_32 : Cond.methodLinkNest RX10 32 yX3_init "ServerHouse" ∈ tables_1 := tm1 (i := 193) rfl
theorem im_X3_init : Cond.instanceMethod yX3_init ∈ gw := gm1 (i := 194) rfl rfl
theorem cd_X3_init : Cond.code yX3_init cX3_init 1 (none : Option FieldType) ∈ gw := gm1 (i := 195) rfl rfl
theorem ml_X3_3 : Cond.methodLink RX3 3 objectInit ∈ gw := gm1 (i := 196) rfl rfl
theorem cl_X3_9 : Cond.classLink RX3 9 RX4 ∈ gw := gm1 (i := 197) rfl rfl
theorem is_X4 : Cond.instantiable RX4 6 ∈ gw := gm1 (i := 198) rfl rfl
theorem nl_X3_11 : Cond.methodLinkNest RX3 11 yX4_init "ServerHouse" ∈ tables_1 := tm1 (i := 199) rfl
theorem im_X4_init : Cond.instanceMethod yX4_init ∈ gw := gm1 (i := 200) rfl rfl
theorem cd_X4_init : Cond.code yX4_init cX4_init 1 (none : Option FieldType) ∈ gw := gm1 (i := 201) rfl rfl
theorem ml_X4_3 : Cond.methodLink RX4 3 objectInit ∈ gw := gm1 (i := 202) rfl rfl
theorem cl_X3_18 : Cond.classLink RX3 18 RX7 ∈ gw := gm1 (i := 226) rfl rfl
theorem is_X7 : Cond.instantiable RX7 2 ∈ gw := gm1 (i := 227) rfl rfl
theorem ml_X3_20 : Cond.methodLink RX3 20 yX7_init ∈ gw := gm1 (i := 228) rfl rfl
theorem im_X7_init : Cond.instanceMethod yX7_init ∈ gw := gm1 (i := 229) rfl rfl
theorem cd_X7_init : Cond.code yX7_init cX7_init 2 (none : Option FieldType) ∈ gw := gm1 (i := 230) rfl rfl
theorem ml_X7_3 : Cond.methodLink RX7 3 objectInit ∈ gw := gm1 (i := 231) rfl rfl
theorem cl_X10_37 : Cond.classLink RX10 37 RX8 ∈ gw := gm2 (i := 36) rfl rfl
theorem is_X8 : Cond.instantiable RX8 8 ∈ gw := gm2 (i := 37) rfl rfl
theorem ml_X10_39 : Cond.methodLink RX10 39 yX8_init ∈ gw := gm2 (i := 38) rfl rfl
theorem im_X8_init : Cond.instanceMethod yX8_init ∈ gw := gm2 (i := 39) rfl rfl
theorem cd_X8_init : Cond.code yX8_init cX8_init 2 (none : Option FieldType) ∈ gw := gm2 (i := 40) rfl rfl
theorem ml_X8_3 : Cond.methodLink RX8 3 objectInit ∈ gw := gm2 (i := 41) rfl rfl
theorem cl_X10_44 : Cond.classLink RX10 44 RX9 ∈ gw := gm2 (i := 68) rfl rfl
theorem is_X9 : Cond.instantiable RX9 3 ∈ gw := gm2 (i := 69) rfl rfl
theorem nl_X10_46 : Cond.methodLinkNest RX10 46 yX9_init "ServerHouse" ∈ tables_1 := tm2 (i := 70) rfl
theorem im_X9_init : Cond.instanceMethod yX9_init ∈ gw := gm2 (i := 71) rfl rfl
theorem cd_X9_init : Cond.code yX9_init cX9_init 1 (none : Option FieldType) ∈ gw := gm2 (i := 72) rfl rfl
theorem ml_X9_3 : Cond.methodLink RX9 3 objectInit ∈ gw := gm2 (i := 73) rfl rfl
theorem ml_L_22 : Cond.methodLink RL 22 yX10_call ∈ gw := gm2 (i := 114) rfl rfl
theorem im_X10_call : Cond.instanceMethod yX10_call ∈ gw := gm2 (i := 115) rfl rfl
theorem sl_X10_call : Cond.selects RX10 yX10_call yX10_call ∈ gw := gm2 (i := 116) rfl rfl
theorem cd_X10_call : Cond.code yX10_call cX10_call 5 (some FieldType.int) ∈ gw := gm2 (i := 117) rfl rfl
theorem ml_X10_61 : Cond.methodLink RX10 61 yX10_isUser ∈ gw := gm2 (i := 118) rfl rfl
theorem sm_X10_isUser : Cond.static yX10_isUser ∈ gw := gm2 (i := 119) rfl rfl
theorem cd_X10_isUser : Cond.code yX10_isUser cX10_isUser 1 (some FieldType.boolean) ∈ gw := gm2 (i := 120) rfl rfl
theorem ml_X10_69 : Cond.methodLink RX10 69 yX9_hasCall ∈ gw := gm2 (i := 121) rfl rfl
theorem im_X9_hasCall : Cond.instanceMethod yX9_hasCall ∈ gw := gm2 (i := 122) rfl rfl
theorem sl_X9_hasCall : Cond.selects RX9 yX9_hasCall yX9_hasCall ∈ gw := gm2 (i := 123) rfl rfl
theorem cd_X9_hasCall : Cond.code yX9_hasCall cX9_hasCall 2 (some FieldType.boolean) ∈ gw := gm2 (i := 124) rfl rfl
theorem nl_X9_22 : Cond.methodLinkNest RX9 22 yX10_isUser "ServerHouse" ∈ tables_1 := tm2 (i := 125) rfl
theorem ml_X10_72 : Cond.methodLink RX10 72 yX1_postLoose ∈ gw := gm2 (i := 126) rfl rfl
theorem im_X1_postLoose : Cond.instanceMethod yX1_postLoose ∈ gw := gm2 (i := 127) rfl rfl
theorem sl_X1_postLoose : Cond.selects RX1 yX1_postLoose yX1_postLoose ∈ gw := gm2 (i := 128) rfl rfl
theorem cd_X1_postLoose : Cond.code yX1_postLoose cX1_postLoose 6 (some FieldType.int) ∈ gw := gm2 (i := 129) rfl rfl
theorem ml_X1_41 : Cond.methodLink RX1 41 yX6_write ∈ gw := gm2 (i := 130) rfl rfl
theorem im_X6_write : Cond.instanceMethod yX6_write ∈ gw := gm2 (i := 131) rfl rfl
theorem sl_X6_write : Cond.selects RX6 yX6_write yX6_write ∈ gw := gm2 (i := 132) rfl rfl
theorem cd_X6_write : Cond.code yX6_write cX6_write 5 (none : Option FieldType) ∈ gw := gm2 (i := 133) rfl rfl
theorem ml_X1_49 : Cond.methodLink RX1 49 yX1_post ∈ gw := gm2 (i := 134) rfl rfl
theorem im_X1_post : Cond.instanceMethod yX1_post ∈ gw := gm2 (i := 135) rfl rfl
theorem sl_X1_post : Cond.selects RX1 yX1_post yX1_post ∈ gw := gm2 (i := 136) rfl rfl
theorem cd_X1_post : Cond.code yX1_post cX1_post 4 (some FieldType.int) ∈ gw := gm2 (i := 137) rfl rfl
theorem nl_X1_37 : Cond.methodLinkNest RX1 37 yX10_isPart "ServerHouse" ∈ tables_1 := tm2 (i := 138) rfl
theorem sm_X10_isPart : Cond.static yX10_isPart ∈ gw := gm2 (i := 139) rfl rfl
theorem cd_X10_isPart : Cond.code yX10_isPart cX10_isPart 1 (some FieldType.boolean) ∈ gw := gm2 (i := 140) rfl rfl
theorem nf_X1_59 : Cond.fieldLinkNest RX1 59 "ServerHouse" "ALLOWED" "[I" "ServerHouse" ∈ tables_1 := tm2 (i := 141) rfl
theorem ls_ALLOWED : Cond.laysStatic "ServerHouse" "ALLOWED" "[I" ∈ tables_1 := tm2 (i := 142) rfl
theorem ml_X1_69 : Cond.methodLink RX1 69 yX0_grow ∈ gw := gm2 (i := 143) rfl rfl
theorem im_X0_grow : Cond.instanceMethod yX0_grow ∈ gw := gm2 (i := 144) rfl rfl
theorem sl_X0_grow : Cond.selects RX0 yX0_grow yX0_grow ∈ gw := gm2 (i := 145) rfl rfl
theorem cd_X0_grow : Cond.code yX0_grow cX0_grow 1 (some (FieldType.object "ServerHouse$Message")) ∈ gw := gm2 (i := 146) rfl rfl
theorem ml_X1_73 : Cond.methodLink RX1 73 yX6_copy ∈ gw := gm2 (i := 147) rfl rfl
theorem im_X6_copy : Cond.instanceMethod yX6_copy ∈ gw := gm2 (i := 148) rfl rfl
theorem sl_X6_copy : Cond.selects RX6 yX6_copy yX6_copy ∈ gw := gm2 (i := 149) rfl rfl
theorem cd_X6_copy : Cond.code yX6_copy cX6_copy 3 (none : Option FieldType) ∈ gw := gm2 (i := 150) rfl rfl
theorem ml_X10_76 : Cond.methodLink RX10 76 yX9_setCall ∈ gw := gm2 (i := 151) rfl rfl
theorem im_X9_setCall : Cond.instanceMethod yX9_setCall ∈ gw := gm2 (i := 152) rfl rfl
theorem sl_X9_setCall : Cond.selects RX9 yX9_setCall yX9_setCall ∈ gw := gm2 (i := 153) rfl rfl
theorem cd_X9_setCall : Cond.code yX9_setCall cX9_setCall 3 (none : Option FieldType) ∈ gw := gm2 (i := 154) rfl rfl
theorem ml_L_27 : Cond.methodLink RL 27 yX10_steps ∈ gw := gm2 (i := 155) rfl rfl
theorem im_X10_steps : Cond.instanceMethod yX10_steps ∈ gw := gm2 (i := 156) rfl rfl
theorem sl_X10_steps : Cond.selects RX10 yX10_steps yX10_steps ∈ gw := gm2 (i := 157) rfl rfl
theorem cd_X10_steps : Cond.code yX10_steps cX10_steps 3 (some FieldType.int) ∈ gw := gm2 (i := 158) rfl rfl
theorem ml_X10_80 : Cond.methodLink RX10 80 yX10_giveTurn ∈ gw := gm2 (i := 159) rfl rfl
theorem im_X10_giveTurn : Cond.instanceMethod yX10_giveTurn ∈ gw := gm2 (i := 161) rfl rfl
theorem cd_X10_giveTurn : Cond.code yX10_giveTurn cX10_giveTurn 2 (none : Option FieldType) ∈ gw := gm2 (i := 162) rfl rfl
theorem ml_X10_214 : Cond.methodLink RX10 214 yX1_sendHeld ∈ gw := gm2 (i := 163) rfl rfl
theorem im_X1_sendHeld : Cond.instanceMethod yX1_sendHeld ∈ gw := gm2 (i := 164) rfl rfl
theorem sl_X1_sendHeld : Cond.selects RX1 yX1_sendHeld yX1_sendHeld ∈ gw := gm2 (i := 165) rfl rfl
theorem cd_X1_sendHeld : Cond.code yX1_sendHeld cX1_sendHeld 4 (some FieldType.boolean) ∈ gw := gm2 (i := 166) rfl rfl
theorem ml_X10_217 : Cond.methodLink RX10 217 yX5_takeTurn ∈ gw := gm2 (i := 167) rfl rfl
theorem im_X5_takeTurn : Cond.instanceMethod yX5_takeTurn ∈ gw := gm2 (i := 168) rfl rfl
theorem sl_X5_takeTurn : Cond.selects RX5 yX5_takeTurn yX5_takeTurn ∈ gw := gm2 (i := 169) rfl rfl
theorem cd_X5_takeTurn : Cond.code yX5_takeTurn cX5_takeTurn 3 (some FieldType.boolean) ∈ gw := gm2 (i := 170) rfl rfl
theorem ml_X5_15 : Cond.methodLink RX5 15 yX5_watchDead ∈ gw := gm2 (i := 171) rfl rfl
theorem im_X5_watchDead : Cond.instanceMethod yX5_watchDead ∈ gw := gm2 (i := 173) rfl rfl
theorem cd_X5_watchDead : Cond.code yX5_watchDead cX5_watchDead 2 (none : Option FieldType) ∈ gw := gm2 (i := 174) rfl rfl
theorem ml_X5_55 : Cond.methodLink RX5 55 yX1_startDriver ∈ gw := gm2 (i := 175) rfl rfl
theorem im_X1_startDriver : Cond.instanceMethod yX1_startDriver ∈ gw := gm2 (i := 176) rfl rfl
theorem sl_X1_startDriver : Cond.selects RX1 yX1_startDriver yX1_startDriver ∈ gw := gm2 (i := 177) rfl rfl
theorem cd_X1_startDriver : Cond.code yX1_startDriver cX1_startDriver 1 (none : Option FieldType) ∈ gw := gm2 (i := 178) rfl rfl
theorem ml_X5_48 : Cond.methodLink RX5 48 yX1_send ∈ gw := gm2 (i := 179) rfl rfl
theorem im_X1_send : Cond.instanceMethod yX1_send ∈ gw := gm2 (i := 180) rfl rfl
theorem sl_X1_send : Cond.selects RX1 yX1_send yX1_send ∈ gw := gm2 (i := 181) rfl rfl
theorem cd_X1_send : Cond.code yX1_send cX1_send 7 (none : Option FieldType) ∈ gw := gm2 (i := 182) rfl rfl
theorem ml_X1_45 : Cond.methodLink RX1 45 yX1_draft ∈ gw := gm2 (i := 183) rfl rfl
theorem im_X1_draft : Cond.instanceMethod yX1_draft ∈ gw := gm2 (i := 184) rfl rfl
theorem sl_X1_draft : Cond.selects RX1 yX1_draft yX1_draft ∈ gw := gm2 (i := 185) rfl rfl
theorem cd_X1_draft : Cond.code yX1_draft cX1_draft 5 (some (FieldType.object "ServerHouse$Message")) ∈ gw := gm2 (i := 186) rfl rfl
theorem ml_X5_25 : Cond.methodLink RX5 25 yX0_take ∈ gw := gm2 (i := 187) rfl rfl
theorem im_X0_take : Cond.instanceMethod yX0_take ∈ gw := gm2 (i := 188) rfl rfl
theorem sl_X0_take : Cond.selects RX0 yX0_take yX0_take ∈ gw := gm2 (i := 189) rfl rfl
theorem cd_X0_take : Cond.code yX0_take cX0_take 4 (some (FieldType.object "ServerHouse$Message")) ∈ gw := gm2 (i := 190) rfl rfl
theorem ml_X5_44 : Cond.methodLink RX5 44 yX5_check ∈ gw := gm2 (i := 191) rfl rfl
theorem im_X5_check : Cond.instanceMethod yX5_check ∈ gw := gm2 (i := 193) rfl rfl
theorem cd_X5_check : Cond.code yX5_check cX5_check 2 (some FieldType.boolean) ∈ gw := gm2 (i := 194) rfl rfl
theorem ml_X10_83 : Cond.methodLink RX10 83 yX10_breakDriver ∈ gw := gm2 (i := 195) rfl rfl
theorem im_X10_breakDriver : Cond.instanceMethod yX10_breakDriver ∈ gw := gm2 (i := 197) rfl rfl
theorem cd_X10_breakDriver : Cond.code yX10_breakDriver cX10_breakDriver 1 (none : Option FieldType) ∈ gw := gm2 (i := 198) rfl rfl
theorem ml_X10_231 : Cond.methodLink RX10 231 yX1_end ∈ gw := gm2 (i := 199) rfl rfl
theorem im_X1_end : Cond.instanceMethod yX1_end ∈ gw := gm2 (i := 200) rfl rfl
theorem sl_X1_end : Cond.selects RX1 yX1_end yX1_end ∈ gw := gm2 (i := 201) rfl rfl
theorem cd_X1_end : Cond.code yX1_end cX1_end 2 (none : Option FieldType) ∈ gw := gm2 (i := 202) rfl rfl
theorem ml_X10_235 : Cond.methodLink RX10 235 yX2_loseAll ∈ gw := gm2 (i := 203) rfl rfl
theorem im_X2_loseAll : Cond.instanceMethod yX2_loseAll ∈ gw := gm2 (i := 204) rfl rfl
theorem sl_X2_loseAll : Cond.selects RX2 yX2_loseAll yX2_loseAll ∈ gw := gm2 (i := 205) rfl rfl
theorem cd_X2_loseAll : Cond.code yX2_loseAll cX2_loseAll 1 (none : Option FieldType) ∈ gw := gm2 (i := 206) rfl rfl
theorem ml_X10_221 : Cond.methodLink RX10 221 yX2_takeTurn ∈ gw := gm2 (i := 207) rfl rfl
theorem im_X2_takeTurn : Cond.instanceMethod yX2_takeTurn ∈ gw := gm2 (i := 208) rfl rfl
theorem sl_X2_takeTurn : Cond.selects RX2 yX2_takeTurn yX2_takeTurn ∈ gw := gm2 (i := 209) rfl rfl
theorem cd_X2_takeTurn : Cond.code yX2_takeTurn cX2_takeTurn 3 (none : Option FieldType) ∈ gw := gm2 (i := 210) rfl rfl
theorem ml_X2_28 : Cond.methodLink RX2 28 yX0_firstOf ∈ gw := gm2 (i := 211) rfl rfl
theorem im_X0_firstOf : Cond.instanceMethod yX0_firstOf ∈ gw := gm2 (i := 212) rfl rfl
theorem sl_X0_firstOf : Cond.selects RX0 yX0_firstOf yX0_firstOf ∈ gw := gm2 (i := 213) rfl rfl
theorem cd_X0_firstOf : Cond.code yX0_firstOf cX0_firstOf 3 (some FieldType.int) ∈ gw := gm2 (i := 214) rfl rfl
theorem ml_X2_34 : Cond.methodLink RX2 34 yX0_take ∈ gw := gm2 (i := 215) rfl rfl
theorem ml_X2_38 : Cond.methodLink RX2 38 yX1_send ∈ gw := gm2 (i := 216) rfl rfl
theorem ml_X2_42 : Cond.methodLink RX2 42 yX2_work ∈ gw := gm2 (i := 217) rfl rfl
theorem im_X2_work : Cond.instanceMethod yX2_work ∈ gw := gm2 (i := 219) rfl rfl
theorem cd_X2_work : Cond.code yX2_work cX2_work 4 (none : Option FieldType) ∈ gw := gm2 (i := 220) rfl rfl
theorem ml_X2_65 : Cond.methodLink RX2 65 yX1_draft ∈ gw := gm2 (i := 221) rfl rfl
theorem ml_X2_69 : Cond.methodLink RX2 69 yX6_setNumbers ∈ gw := gm2 (i := 222) rfl rfl
theorem im_X6_setNumbers : Cond.instanceMethod yX6_setNumbers ∈ gw := gm2 (i := 223) rfl rfl
theorem sl_X6_setNumbers : Cond.selects RX6 yX6_setNumbers yX6_setNumbers ∈ gw := gm2 (i := 224) rfl rfl
theorem cd_X6_setNumbers : Cond.code yX6_setNumbers cX6_setNumbers 5 (none : Option FieldType) ∈ gw := gm2 (i := 225) rfl rfl
theorem ml_X2_73 : Cond.methodLink RX2 73 yX1_post ∈ gw := gm2 (i := 226) rfl rfl
theorem ml_X2_46 : Cond.methodLink RX2 46 yX2_begin ∈ gw := gm2 (i := 227) rfl rfl
theorem im_X2_begin : Cond.instanceMethod yX2_begin ∈ gw := gm2 (i := 229) rfl rfl
theorem cd_X2_begin : Cond.code yX2_begin cX2_begin 3 (none : Option FieldType) ∈ gw := gm2 (i := 230) rfl rfl
theorem ml_X10_224 : Cond.methodLink RX10 224 yX3_takeTurn ∈ gw := gm2 (i := 231) rfl rfl
theorem im_X3_takeTurn : Cond.instanceMethod yX3_takeTurn ∈ gw := gm2 (i := 232) rfl rfl
theorem sl_X3_takeTurn : Cond.selects RX3 yX3_takeTurn yX3_takeTurn ∈ gw := gm2 (i := 233) rfl rfl
theorem cd_X3_takeTurn : Cond.code yX3_takeTurn cX3_takeTurn 4 (none : Option FieldType) ∈ gw := gm2 (i := 234) rfl rfl
theorem ml_X3_43 : Cond.methodLink RX3 43 yX0_firstFor ∈ gw := gm2 (i := 235) rfl rfl
theorem im_X0_firstFor : Cond.instanceMethod yX0_firstFor ∈ gw := gm2 (i := 236) rfl rfl
theorem sl_X0_firstFor : Cond.selects RX0 yX0_firstFor yX0_firstFor ∈ gw := gm2 (i := 237) rfl rfl
theorem cd_X0_firstFor : Cond.code yX0_firstFor cX0_firstFor 3 (some FieldType.int) ∈ gw := gm2 (i := 238) rfl rfl
theorem ml_X3_49 : Cond.methodLink RX3 49 yX0_take ∈ gw := gm2 (i := 239) rfl rfl
theorem ml_X3_64 : Cond.methodLink RX3 64 yX3_openFile ∈ gw := gm3 (i := 0) rfl rfl
theorem im_X3_openFile : Cond.instanceMethod yX3_openFile ∈ gw := gm3 (i := 2) rfl rfl
theorem cd_X3_openFile : Cond.code yX3_openFile cX3_openFile 4 (some FieldType.int) ∈ gw := gm3 (i := 3) rfl rfl
theorem ml_X3_121 : Cond.methodLink RX3 121 yX7_leastFree ∈ gw := gm3 (i := 4) rfl rfl
theorem im_X7_leastFree : Cond.instanceMethod yX7_leastFree ∈ gw := gm3 (i := 5) rfl rfl
theorem sl_X7_leastFree : Cond.selects RX7 yX7_leastFree yX7_leastFree ∈ gw := gm3 (i := 6) rfl rfl
theorem cd_X7_leastFree : Cond.code yX7_leastFree cX7_leastFree 3 (some FieldType.int) ∈ gw := gm3 (i := 7) rfl rfl
theorem ml_X7_22 : Cond.methodLink RX7 22 yX7_slot ∈ gw := gm3 (i := 8) rfl rfl
theorem im_X7_slot : Cond.instanceMethod yX7_slot ∈ gw := gm3 (i := 10) rfl rfl
theorem cd_X7_slot : Cond.code yX7_slot cX7_slot 4 (some FieldType.int) ∈ gw := gm3 (i := 11) rfl rfl
theorem nl_X7_18 : Cond.methodLinkNest RX7 18 yX10_isUser "ServerHouse" ∈ tables_1 := tm3 (i := 12) rfl
theorem ml_X3_124 : Cond.methodLink RX3 124 yX4_has ∈ gw := gm3 (i := 13) rfl rfl
theorem im_X4_has : Cond.instanceMethod yX4_has ∈ gw := gm3 (i := 14) rfl rfl
theorem sl_X4_has : Cond.selects RX4 yX4_has yX4_has ∈ gw := gm3 (i := 15) rfl rfl
theorem cd_X4_has : Cond.code yX4_has cX4_has 2 (some FieldType.boolean) ∈ gw := gm3 (i := 16) rfl rfl
theorem ml_X3_131 : Cond.methodLink RX3 131 yX4_make ∈ gw := gm3 (i := 17) rfl rfl
theorem im_X4_make : Cond.instanceMethod yX4_make ∈ gw := gm3 (i := 18) rfl rfl
theorem sl_X4_make : Cond.selects RX4 yX4_make yX4_make ∈ gw := gm3 (i := 19) rfl rfl
theorem cd_X4_make : Cond.code yX4_make cX4_make 2 (none : Option FieldType) ∈ gw := gm3 (i := 20) rfl rfl
theorem ml_X3_113 : Cond.methodLink RX3 113 yX7_set ∈ gw := gm3 (i := 21) rfl rfl
theorem im_X7_set : Cond.instanceMethod yX7_set ∈ gw := gm3 (i := 22) rfl rfl
theorem sl_X7_set : Cond.selects RX7 yX7_set yX7_set ∈ gw := gm3 (i := 23) rfl rfl
theorem cd_X7_set : Cond.code yX7_set cX7_set 6 (none : Option FieldType) ∈ gw := gm3 (i := 24) rfl rfl
theorem ml_X3_68 : Cond.methodLink RX3 68 yX1_send ∈ gw := gm3 (i := 25) rfl rfl
theorem ml_X3_72 : Cond.methodLink RX3 72 yX3_removeFile ∈ gw := gm3 (i := 26) rfl rfl
theorem im_X3_removeFile : Cond.instanceMethod yX3_removeFile ∈ gw := gm3 (i := 28) rfl rfl
theorem cd_X3_removeFile : Cond.code yX3_removeFile cX3_removeFile 2 (some FieldType.int) ∈ gw := gm3 (i := 29) rfl rfl
theorem ml_X3_134 : Cond.methodLink RX3 134 yX7_anybodyHas ∈ gw := gm3 (i := 30) rfl rfl
theorem im_X7_anybodyHas : Cond.instanceMethod yX7_anybodyHas ∈ gw := gm3 (i := 31) rfl rfl
theorem sl_X7_anybodyHas : Cond.selects RX7 yX7_anybodyHas yX7_anybodyHas ∈ gw := gm3 (i := 32) rfl rfl
theorem cd_X7_anybodyHas : Cond.code yX7_anybodyHas cX7_anybodyHas 3 (some FieldType.boolean) ∈ gw := gm3 (i := 33) rfl rfl
theorem ml_X3_137 : Cond.methodLink RX3 137 yX4_discard ∈ gw := gm3 (i := 34) rfl rfl
theorem im_X4_discard : Cond.instanceMethod yX4_discard ∈ gw := gm3 (i := 35) rfl rfl
theorem sl_X4_discard : Cond.selects RX4 yX4_discard yX4_discard ∈ gw := gm3 (i := 36) rfl rfl
theorem cd_X4_discard : Cond.code yX4_discard cX4_discard 3 (none : Option FieldType) ∈ gw := gm3 (i := 37) rfl rfl
theorem ml_X4_29 : Cond.methodLink RX4 29 yX4_has ∈ gw := gm3 (i := 38) rfl rfl
theorem ml_X4_40 : Cond.methodLink RX4 40 yX4_release ∈ gw := gm3 (i := 39) rfl rfl
theorem im_X4_release : Cond.instanceMethod yX4_release ∈ gw := gm3 (i := 41) rfl rfl
theorem cd_X4_release : Cond.code yX4_release cX4_release 2 (none : Option FieldType) ∈ gw := gm3 (i := 42) rfl rfl
theorem ml_X3_75 : Cond.methodLink RX3 75 yX3_read ∈ gw := gm3 (i := 43) rfl rfl
theorem im_X3_read : Cond.instanceMethod yX3_read ∈ gw := gm3 (i := 45) rfl rfl
theorem cd_X3_read : Cond.code yX3_read cX3_read 6 (none : Option FieldType) ∈ gw := gm3 (i := 46) rfl rfl
theorem ml_X3_107 : Cond.methodLink RX3 107 yX7_fileAt ∈ gw := gm3 (i := 47) rfl rfl
theorem im_X7_fileAt : Cond.instanceMethod yX7_fileAt ∈ gw := gm3 (i := 48) rfl rfl
theorem sl_X7_fileAt : Cond.selects RX7 yX7_fileAt yX7_fileAt ∈ gw := gm3 (i := 49) rfl rfl
theorem cd_X7_fileAt : Cond.code yX7_fileAt cX7_fileAt 4 (some FieldType.int) ∈ gw := gm3 (i := 50) rfl rfl
theorem ml_X3_140 : Cond.methodLink RX3 140 yX7_placeAt ∈ gw := gm3 (i := 51) rfl rfl
theorem im_X7_placeAt : Cond.instanceMethod yX7_placeAt ∈ gw := gm3 (i := 52) rfl rfl
theorem sl_X7_placeAt : Cond.selects RX7 yX7_placeAt yX7_placeAt ∈ gw := gm3 (i := 53) rfl rfl
theorem cd_X7_placeAt : Cond.code yX7_placeAt cX7_placeAt 4 (some FieldType.int) ∈ gw := gm3 (i := 54) rfl rfl
theorem ml_X3_110 : Cond.methodLink RX3 110 yX4_sizeOf ∈ gw := gm3 (i := 55) rfl rfl
theorem im_X4_sizeOf : Cond.instanceMethod yX4_sizeOf ∈ gw := gm3 (i := 56) rfl rfl
theorem sl_X4_sizeOf : Cond.selects RX4 yX4_sizeOf yX4_sizeOf ∈ gw := gm3 (i := 57) rfl rfl
theorem cd_X4_sizeOf : Cond.code yX4_sizeOf cX4_sizeOf 2 (some FieldType.int) ∈ gw := gm3 (i := 58) rfl rfl
theorem ml_X3_143 : Cond.methodLink RX3 143 yX3_takeInHand ∈ gw := gm3 (i := 59) rfl rfl
theorem im_X3_takeInHand : Cond.instanceMethod yX3_takeInHand ∈ gw := gm3 (i := 61) rfl rfl
theorem cd_X3_takeInHand : Cond.code yX3_takeInHand cX3_takeInHand 5 (none : Option FieldType) ∈ gw := gm3 (i := 62) rfl rfl
theorem ml_X3_147 : Cond.methodLink RX3 147 yX4_blockOf ∈ gw := gm3 (i := 63) rfl rfl
theorem im_X4_blockOf : Cond.instanceMethod yX4_blockOf ∈ gw := gm3 (i := 64) rfl rfl
theorem sl_X4_blockOf : Cond.selects RX4 yX4_blockOf yX4_blockOf ∈ gw := gm3 (i := 65) rfl rfl
theorem cd_X4_blockOf : Cond.code yX4_blockOf cX4_blockOf 4 (some FieldType.int) ∈ gw := gm3 (i := 66) rfl rfl
theorem kl_X4_33 : Cond.constantLong RX4 33 4 ∈ gw := gm3 (i := 67) rfl rfl
theorem kl_X4_35 : Cond.constantLong RX4 35 8 ∈ gw := gm3 (i := 68) rfl rfl
theorem ml_X3_154 : Cond.methodLink RX3 154 yX3_ask ∈ gw := gm3 (i := 69) rfl rfl
theorem im_X3_ask : Cond.instanceMethod yX3_ask ∈ gw := gm3 (i := 71) rfl rfl
theorem cd_X3_ask : Cond.code yX3_ask cX3_ask 4 (none : Option FieldType) ∈ gw := gm3 (i := 72) rfl rfl
theorem ml_X3_185 : Cond.methodLink RX3 185 yX1_draft ∈ gw := gm3 (i := 73) rfl rfl
theorem ml_X3_192 : Cond.methodLink RX3 192 yX6_setNumbers ∈ gw := gm3 (i := 74) rfl rfl
theorem ml_X3_196 : Cond.methodLink RX3 196 yX1_post ∈ gw := gm3 (i := 75) rfl rfl
theorem ml_X3_82 : Cond.methodLink RX3 82 yX3_write ∈ gw := gm3 (i := 76) rfl rfl
theorem im_X3_write : Cond.instanceMethod yX3_write ∈ gw := gm3 (i := 78) rfl rfl
theorem cd_X3_write : Cond.code yX3_write cX3_write 9 (none : Option FieldType) ∈ gw := gm3 (i := 79) rfl rfl
theorem ml_X3_157 : Cond.methodLink RX3 157 yX3_whyNotWrite ∈ gw := gm3 (i := 80) rfl rfl
theorem im_X3_whyNotWrite : Cond.instanceMethod yX3_whyNotWrite ∈ gw := gm3 (i := 82) rfl rfl
theorem cd_X3_whyNotWrite : Cond.code yX3_whyNotWrite cX3_whyNotWrite 3 (some FieldType.int) ∈ gw := gm3 (i := 83) rfl rfl
theorem ml_X3_160 : Cond.methodLink RX3 160 yX4_needsBlock ∈ gw := gm3 (i := 84) rfl rfl
theorem im_X4_needsBlock : Cond.instanceMethod yX4_needsBlock ∈ gw := gm3 (i := 85) rfl rfl
theorem sl_X4_needsBlock : Cond.selects RX4 yX4_needsBlock yX4_needsBlock ∈ gw := gm3 (i := 86) rfl rfl
theorem cd_X4_needsBlock : Cond.code yX4_needsBlock cX4_needsBlock 3 (some FieldType.boolean) ∈ gw := gm3 (i := 87) rfl rfl
theorem ml_X3_164 : Cond.methodLink RX3 164 yX4_takeBlock ∈ gw := gm3 (i := 88) rfl rfl
theorem im_X4_takeBlock : Cond.instanceMethod yX4_takeBlock ∈ gw := gm3 (i := 89) rfl rfl
theorem sl_X4_takeBlock : Cond.selects RX4 yX4_takeBlock yX4_takeBlock ∈ gw := gm3 (i := 90) rfl rfl
theorem cd_X4_takeBlock : Cond.code yX4_takeBlock cX4_takeBlock 4 (some FieldType.int) ∈ gw := gm3 (i := 91) rfl rfl
theorem ml_X3_87 : Cond.methodLink RX3 87 yX3_goOn ∈ gw := gm3 (i := 92) rfl rfl
theorem im_X3_goOn : Cond.instanceMethod yX3_goOn ∈ gw := gm3 (i := 94) rfl rfl
theorem cd_X3_goOn : Cond.code yX3_goOn cX3_goOn 6 (none : Option FieldType) ∈ gw := gm3 (i := 95) rfl rfl
theorem ml_X3_200 : Cond.methodLink RX3 200 yJ9_floorMod_7cf53 ∈ gw := gm3 (i := 96) rfl rfl
theorem sm_J9_floorMod_7cf53 : Cond.static yJ9_floorMod_7cf53 ∈ gw := gm3 (i := 97) rfl rfl
theorem cd_J9_floorMod_7cf53 : Cond.code yJ9_floorMod_7cf53 cJ9_floorMod_7cf53 3 (some FieldType.int) ∈ gw := gm3 (i := 98) rfl rfl
theorem ml_X3_205 : Cond.methodLink RX3 205 yX4_growOver ∈ gw := gm3 (i := 99) rfl rfl
theorem im_X4_growOver : Cond.instanceMethod yX4_growOver ∈ gw := gm3 (i := 100) rfl rfl
theorem sl_X4_growOver : Cond.selects RX4 yX4_growOver yX4_growOver ∈ gw := gm3 (i := 101) rfl rfl
theorem cd_X4_growOver : Cond.code yX4_growOver cX4_growOver 3 (none : Option FieldType) ∈ gw := gm3 (i := 102) rfl rfl
theorem ml_X3_117 : Cond.methodLink RX3 117 yX7_setPlace ∈ gw := gm3 (i := 103) rfl rfl
theorem im_X7_setPlace : Cond.instanceMethod yX7_setPlace ∈ gw := gm3 (i := 104) rfl rfl
theorem sl_X7_setPlace : Cond.selects RX7 yX7_setPlace yX7_setPlace ∈ gw := gm3 (i := 105) rfl rfl
theorem cd_X7_setPlace : Cond.code yX7_setPlace cX7_setPlace 5 (none : Option FieldType) ∈ gw := gm3 (i := 106) rfl rfl
theorem ml_X3_91 : Cond.methodLink RX3 91 yX3_hearOfLife ∈ gw := gm3 (i := 107) rfl rfl
theorem im_X3_hearOfLife : Cond.instanceMethod yX3_hearOfLife ∈ gw := gm3 (i := 109) rfl rfl
theorem cd_X3_hearOfLife : Cond.code yX3_hearOfLife cX3_hearOfLife 3 (none : Option FieldType) ∈ gw := gm3 (i := 110) rfl rfl
theorem ml_X3_95 : Cond.methodLink RX3 95 yX7_copyAll ∈ gw := gm3 (i := 111) rfl rfl
theorem im_X7_copyAll : Cond.instanceMethod yX7_copyAll ∈ gw := gm3 (i := 112) rfl rfl
theorem sl_X7_copyAll : Cond.selects RX7 yX7_copyAll yX7_copyAll ∈ gw := gm3 (i := 113) rfl rfl
theorem cd_X7_copyAll : Cond.code yX7_copyAll cX7_copyAll 4 (none : Option FieldType) ∈ gw := gm3 (i := 114) rfl rfl
theorem ml_X7_30 : Cond.methodLink RX7 30 yX7_fileAt ∈ gw := gm3 (i := 115) rfl rfl
theorem ml_X7_33 : Cond.methodLink RX7 33 yX7_placeAt ∈ gw := gm3 (i := 116) rfl rfl
theorem ml_X7_26 : Cond.methodLink RX7 26 yX7_set ∈ gw := gm3 (i := 117) rfl rfl
theorem ml_X3_99 : Cond.methodLink RX3 99 yX7_closeAll ∈ gw := gm3 (i := 118) rfl rfl
theorem im_X7_closeAll : Cond.instanceMethod yX7_closeAll ∈ gw := gm3 (i := 119) rfl rfl
theorem sl_X7_closeAll : Cond.selects RX7 yX7_closeAll yX7_closeAll ∈ gw := gm3 (i := 120) rfl rfl
theorem cd_X7_closeAll : Cond.code yX7_closeAll cX7_closeAll 3 (none : Option FieldType) ∈ gw := gm3 (i := 121) rfl rfl
theorem ml_X3_103 : Cond.methodLink RX3 103 yX3_handle ∈ gw := gm3 (i := 122) rfl rfl
theorem im_X3_handle : Cond.instanceMethod yX3_handle ∈ gw := gm3 (i := 124) rfl rfl
theorem cd_X3_handle : Cond.code yX3_handle cX3_handle 6 (some FieldType.int) ∈ gw := gm3 (i := 125) rfl rfl
theorem ml_X10_225 : Cond.methodLink RX10 225 yX8_takeTurn ∈ gw := gm3 (i := 126) rfl rfl
theorem im_X8_takeTurn : Cond.instanceMethod yX8_takeTurn ∈ gw := gm3 (i := 127) rfl rfl
theorem sl_X8_takeTurn : Cond.selects RX8 yX8_takeTurn yX8_takeTurn ∈ gw := gm3 (i := 128) rfl rfl
theorem cd_X8_takeTurn : Cond.code yX8_takeTurn cX8_takeTurn 6 (none : Option FieldType) ∈ gw := gm3 (i := 129) rfl rfl
theorem ml_X8_39 : Cond.methodLink RX8 39 yX0_firstFor ∈ gw := gm3 (i := 130) rfl rfl
theorem ml_X8_45 : Cond.methodLink RX8 45 yX0_take ∈ gw := gm3 (i := 131) rfl rfl
theorem nl_X8_55 : Cond.methodLinkNest RX8 55 yX10_isPart "ServerHouse" ∈ tables_1 := tm3 (i := 132) rfl
theorem ml_X8_61 : Cond.methodLink RX8 61 yX8_goOn ∈ gw := gm3 (i := 133) rfl rfl
theorem im_X8_goOn : Cond.instanceMethod yX8_goOn ∈ gw := gm3 (i := 135) rfl rfl
theorem cd_X8_goOn : Cond.code yX8_goOn cX8_goOn 3 (none : Option FieldType) ∈ gw := gm3 (i := 136) rfl rfl
theorem nl_X8_25 : Cond.methodLinkNest RX8 25 yX10_isUser "ServerHouse" ∈ tables_1 := tm3 (i := 137) rfl
theorem ml_X8_88 : Cond.methodLink RX8 88 yX1_send ∈ gw := gm3 (i := 138) rfl rfl
theorem ml_X8_120 : Cond.methodLink RX8 120 yX8_leaveChildren ∈ gw := gm3 (i := 139) rfl rfl
theorem im_X8_leaveChildren : Cond.instanceMethod yX8_leaveChildren ∈ gw := gm3 (i := 141) rfl rfl
theorem cd_X8_leaveChildren : Cond.code yX8_leaveChildren cX8_leaveChildren 3 (none : Option FieldType) ∈ gw := gm3 (i := 142) rfl rfl
theorem ml_X8_117 : Cond.methodLink RX8 117 yX8_collect ∈ gw := gm3 (i := 143) rfl rfl
theorem im_X8_collect : Cond.instanceMethod yX8_collect ∈ gw := gm3 (i := 145) rfl rfl
theorem cd_X8_collect : Cond.code yX8_collect cX8_collect 2 (some FieldType.int) ∈ gw := gm3 (i := 146) rfl rfl
theorem ml_X8_65 : Cond.methodLink RX8 65 yX8_fork ∈ gw := gm3 (i := 147) rfl rfl
theorem im_X8_fork : Cond.instanceMethod yX8_fork ∈ gw := gm3 (i := 149) rfl rfl
theorem cd_X8_fork : Cond.code yX8_fork cX8_fork 4 (none : Option FieldType) ∈ gw := gm3 (i := 150) rfl rfl
theorem ml_X8_92 : Cond.methodLink RX8 92 yX8_waitFor ∈ gw := gm3 (i := 151) rfl rfl
theorem im_X8_waitFor : Cond.instanceMethod yX8_waitFor ∈ gw := gm3 (i := 153) rfl rfl
theorem cd_X8_waitFor : Cond.code yX8_waitFor cX8_waitFor 4 (none : Option FieldType) ∈ gw := gm3 (i := 154) rfl rfl
theorem ml_X8_72 : Cond.methodLink RX8 72 yJ9_floorMod_7cf53 ∈ gw := gm3 (i := 155) rfl rfl
theorem ml_X8_78 : Cond.methodLink RX8 78 yX8_end ∈ gw := gm3 (i := 156) rfl rfl
theorem im_X8_end : Cond.instanceMethod yX8_end ∈ gw := gm3 (i := 158) rfl rfl
theorem cd_X8_end : Cond.code yX8_end cX8_end 6 (none : Option FieldType) ∈ gw := gm3 (i := 159) rfl rfl
theorem ml_X8_96 : Cond.methodLink RX8 96 yX9_setCall ∈ gw := gm3 (i := 160) rfl rfl
theorem ml_X8_102 : Cond.methodLink RX8 102 yX1_end ∈ gw := gm3 (i := 161) rfl rfl
theorem ml_X8_105 : Cond.methodLink RX8 105 yX0_dropFrom ∈ gw := gm3 (i := 162) rfl rfl
theorem im_X0_dropFrom : Cond.instanceMethod yX0_dropFrom ∈ gw := gm3 (i := 163) rfl rfl
theorem sl_X0_dropFrom : Cond.selects RX0 yX0_dropFrom yX0_dropFrom ∈ gw := gm3 (i := 164) rfl rfl
theorem cd_X0_dropFrom : Cond.code yX0_dropFrom cX0_dropFrom 3 (none : Option FieldType) ∈ gw := gm3 (i := 165) rfl rfl
theorem ml_X0_28 : Cond.methodLink RX0 28 yX0_take ∈ gw := gm3 (i := 166) rfl rfl
theorem ml_X8_82 : Cond.methodLink RX8 82 yX8_await ∈ gw := gm3 (i := 167) rfl rfl
theorem im_X8_await : Cond.instanceMethod yX8_await ∈ gw := gm3 (i := 169) rfl rfl
theorem cd_X8_await : Cond.code yX8_await cX8_await 5 (none : Option FieldType) ∈ gw := gm3 (i := 170) rfl rfl
theorem ml_X10_228 : Cond.methodLink RX10 228 yX9_takeTurn ∈ gw := gm3 (i := 171) rfl rfl
theorem im_X9_takeTurn : Cond.instanceMethod yX9_takeTurn ∈ gw := gm3 (i := 172) rfl rfl
theorem sl_X9_takeTurn : Cond.selects RX9 yX9_takeTurn yX9_takeTurn ∈ gw := gm3 (i := 173) rfl rfl
theorem cd_X9_takeTurn : Cond.code yX9_takeTurn cX9_takeTurn 4 (none : Option FieldType) ∈ gw := gm3 (i := 174) rfl rfl
theorem ml_X9_32 : Cond.methodLink RX9 32 yX0_take ∈ gw := gm3 (i := 175) rfl rfl
theorem ml_L_32 : Cond.methodLink RL 32 yX10_until ∈ gw := gm3 (i := 176) rfl rfl
theorem im_X10_until : Cond.instanceMethod yX10_until ∈ gw := gm3 (i := 177) rfl rfl
theorem sl_X10_until : Cond.selects RX10 yX10_until yX10_until ∈ gw := gm3 (i := 178) rfl rfl
theorem cd_X10_until : Cond.code yX10_until cX10_until 4 (some FieldType.int) ∈ gw := gm3 (i := 179) rfl rfl
theorem ml_L_36 : Cond.methodLink RL 36 yX10_crash ∈ gw := gm3 (i := 180) rfl rfl
theorem im_X10_crash : Cond.instanceMethod yX10_crash ∈ gw := gm3 (i := 181) rfl rfl
theorem sl_X10_crash : Cond.selects RX10 yX10_crash yX10_crash ∈ gw := gm3 (i := 182) rfl rfl
theorem cd_X10_crash : Cond.code yX10_crash cX10_crash 1 (some FieldType.boolean) ∈ gw := gm3 (i := 183) rfl rfl
theorem ml_L_41 : Cond.methodLink RL 41 yX10_hang ∈ gw := gm3 (i := 184) rfl rfl
theorem im_X10_hang : Cond.instanceMethod yX10_hang ∈ gw := gm3 (i := 185) rfl rfl
theorem sl_X10_hang : Cond.selects RX10 yX10_hang yX10_hang ∈ gw := gm3 (i := 186) rfl rfl
theorem cd_X10_hang : Cond.code yX10_hang cX10_hang 1 (some FieldType.boolean) ∈ gw := gm3 (i := 187) rfl rfl
theorem ml_L_45 : Cond.methodLink RL 45 yX10_force ∈ gw := gm3 (i := 188) rfl rfl
theorem im_X10_force : Cond.instanceMethod yX10_force ∈ gw := gm3 (i := 189) rfl rfl
theorem sl_X10_force : Cond.selects RX10 yX10_force yX10_force ∈ gw := gm3 (i := 190) rfl rfl
theorem cd_X10_force : Cond.code yX10_force cX10_force 3 (some FieldType.int) ∈ gw := gm3 (i := 191) rfl rfl
theorem ml_X10_90 : Cond.methodLink RX10 90 yX10_isPart ∈ gw := gm3 (i := 192) rfl rfl
theorem ml_L_59 : Cond.methodLink RL 59 yX10_descriptor ∈ gw := gm3 (i := 193) rfl rfl
theorem im_X10_descriptor : Cond.instanceMethod yX10_descriptor ∈ gw := gm3 (i := 194) rfl rfl
theorem sl_X10_descriptor : Cond.selects RX10 yX10_descriptor yX10_descriptor ∈ gw := gm3 (i := 195) rfl rfl
theorem cd_X10_descriptor : Cond.code yX10_descriptor cX10_descriptor 4 (some FieldType.int) ∈ gw := gm3 (i := 196) rfl rfl
theorem ml_X10_128 : Cond.methodLink RX10 128 yX7_fileAt ∈ gw := gm3 (i := 197) rfl rfl
theorem ml_X10_132 : Cond.methodLink RX10 132 yX7_placeAt ∈ gw := gm3 (i := 198) rfl rfl
theorem ml_L_64 : Cond.methodLink RL 64 yX10_file ∈ gw := gm3 (i := 199) rfl rfl
theorem im_X10_file : Cond.instanceMethod yX10_file ∈ gw := gm3 (i := 200) rfl rfl
theorem sl_X10_file : Cond.selects RX10 yX10_file yX10_file ∈ gw := gm3 (i := 201) rfl rfl
theorem cd_X10_file : Cond.code yX10_file cX10_file 3 (some FieldType.int) ∈ gw := gm3 (i := 202) rfl rfl
theorem ml_X10_139 : Cond.methodLink RX10 139 yX4_sizeOf ∈ gw := gm3 (i := 203) rfl rfl
theorem ml_X10_144 : Cond.methodLink RX10 144 yX4_blockOf ∈ gw := gm3 (i := 204) rfl rfl
theorem ml_L_71 : Cond.methodLink RL 71 yX10_inbox ∈ gw := gm3 (i := 205) rfl rfl
theorem im_X10_inbox : Cond.instanceMethod yX10_inbox ∈ gw := gm3 (i := 206) rfl rfl
theorem sl_X10_inbox : Cond.selects RX10 yX10_inbox yX10_inbox ∈ gw := gm3 (i := 207) rfl rfl
theorem cd_X10_inbox : Cond.code yX10_inbox cX10_inbox 2 (some FieldType.int) ∈ gw := gm3 (i := 208) rfl rfl
theorem ml_L_75 : Cond.methodLink RL 75 yX10_message ∈ gw := gm3 (i := 209) rfl rfl
theorem im_X10_message : Cond.instanceMethod yX10_message ∈ gw := gm3 (i := 210) rfl rfl
theorem sl_X10_message : Cond.selects RX10 yX10_message yX10_message ∈ gw := gm3 (i := 211) rfl rfl
theorem cd_X10_message : Cond.code yX10_message cX10_message 5 (some FieldType.int) ∈ gw := gm3 (i := 212) rfl rfl
theorem ml_X10_162 : Cond.methodLink RX10 162 yX0_look ∈ gw := gm3 (i := 213) rfl rfl
theorem im_X0_look : Cond.instanceMethod yX0_look ∈ gw := gm3 (i := 214) rfl rfl
theorem sl_X0_look : Cond.selects RX0 yX0_look yX0_look ∈ gw := gm3 (i := 215) rfl rfl
theorem cd_X0_look : Cond.code yX0_look cX0_look 2 (some (FieldType.object "ServerHouse$Message")) ∈ gw := gm3 (i := 216) rfl rfl
theorem ml_L_79 : Cond.methodLink RL 79 yX10_count ∈ gw := gm3 (i := 217) rfl rfl
theorem im_X10_count : Cond.instanceMethod yX10_count ∈ gw := gm3 (i := 218) rfl rfl
theorem sl_X10_count : Cond.selects RX10 yX10_count yX10_count ∈ gw := gm3 (i := 219) rfl rfl
theorem cd_X10_count : Cond.code yX10_count cX10_count 2 (some FieldType.int) ∈ gw := gm3 (i := 220) rfl rfl
theorem ml_X10_204 : Cond.methodLink RX10 204 yX1_livingUsers ∈ gw := gm3 (i := 221) rfl rfl
theorem im_X1_livingUsers : Cond.instanceMethod yX1_livingUsers ∈ gw := gm3 (i := 222) rfl rfl
theorem sl_X1_livingUsers : Cond.selects RX1 yX1_livingUsers yX1_livingUsers ∈ gw := gm3 (i := 223) rfl rfl
theorem cd_X1_livingUsers : Cond.code yX1_livingUsers cX1_livingUsers 3 (some FieldType.int) ∈ gw := gm3 (i := 224) rfl rfl
theorem ml_L_49 : Cond.methodLink RL 49 yL_user ∈ gw := gm3 (i := 225) rfl rfl
theorem sm_L_user : Cond.static yL_user ∈ gw := gm3 (i := 226) rfl rfl
theorem ml_L_7 : Cond.methodLink RL 7 yX10_user ∈ gw := gm3 (i := 229) rfl rfl
theorem im_X10_user : Cond.instanceMethod yX10_user ∈ gw := gm3 (i := 230) rfl rfl
theorem sl_X10_user : Cond.selects RX10 yX10_user yX10_user ∈ gw := gm3 (i := 231) rfl rfl
theorem cd_X10_user : Cond.code yX10_user cX10_user 3 (some FieldType.int) ∈ gw := gm3 (i := 232) rfl rfl
theorem ac_byte : Cond.arrayClass .byte ∈ gw := gm4 (i := 58) rfl rfl
theorem ml_X10_100 : Cond.methodLink RX10 100 yX8_hasEnded ∈ gw := gm4 (i := 59) rfl rfl
theorem im_X8_hasEnded : Cond.instanceMethod yX8_hasEnded ∈ gw := gm4 (i := 60) rfl rfl
theorem sl_X8_hasEnded : Cond.selects RX8 yX8_hasEnded yX8_hasEnded ∈ gw := gm4 (i := 61) rfl rfl
theorem cd_X8_hasEnded : Cond.code yX8_hasEnded cX8_hasEnded 2 (some FieldType.boolean) ∈ gw := gm4 (i := 62) rfl rfl
theorem ml_X10_110 : Cond.methodLink RX10 110 yX8_parentOf ∈ gw := gm4 (i := 63) rfl rfl
theorem im_X8_parentOf : Cond.instanceMethod yX8_parentOf ∈ gw := gm4 (i := 64) rfl rfl
theorem sl_X8_parentOf : Cond.selects RX8 yX8_parentOf yX8_parentOf ∈ gw := gm4 (i := 65) rfl rfl
theorem cd_X8_parentOf : Cond.code yX8_parentOf cX8_parentOf 2 (some FieldType.int) ∈ gw := gm4 (i := 66) rfl rfl
theorem ml_X10_114 : Cond.methodLink RX10 114 yX8_codeOf ∈ gw := gm4 (i := 67) rfl rfl
theorem im_X8_codeOf : Cond.instanceMethod yX8_codeOf ∈ gw := gm4 (i := 68) rfl rfl
theorem sl_X8_codeOf : Cond.selects RX8 yX8_codeOf yX8_codeOf ∈ gw := gm4 (i := 69) rfl rfl
theorem cd_X8_codeOf : Cond.code yX8_codeOf cX8_codeOf 2 (some FieldType.int) ∈ gw := gm4 (i := 70) rfl rfl
theorem ml_X10_121 : Cond.methodLink RX10 121 yX7_howMany ∈ gw := gm4 (i := 71) rfl rfl
theorem im_X7_howMany : Cond.instanceMethod yX7_howMany ∈ gw := gm4 (i := 72) rfl rfl
theorem sl_X7_howMany : Cond.selects RX7 yX7_howMany yX7_howMany ∈ gw := gm4 (i := 73) rfl rfl
theorem cd_X7_howMany : Cond.code yX7_howMany cX7_howMany 4 (some FieldType.int) ∈ gw := gm4 (i := 74) rfl rfl
theorem ml_L_68 : Cond.methodLink RL 68 yL_disk ∈ gw := gm4 (i := 76) rfl rfl
theorem sm_L_disk : Cond.static yL_disk ∈ gw := gm4 (i := 77) rfl rfl
theorem ml_L_15 : Cond.methodLink RL 15 yX10_disk ∈ gw := gm4 (i := 79) rfl rfl
theorem im_X10_disk : Cond.instanceMethod yX10_disk ∈ gw := gm4 (i := 80) rfl rfl
theorem sl_X10_disk : Cond.selects RX10 yX10_disk yX10_disk ∈ gw := gm4 (i := 81) rfl rfl
theorem cd_X10_disk : Cond.code yX10_disk cX10_disk 3 (some FieldType.int) ∈ gw := gm4 (i := 82) rfl rfl
theorem ml_L_55 : Cond.methodLink RL 55 yX11_thrown ∈ gw := gm4 (i := 84) rfl rfl
theorem im_X11_thrown : Cond.instanceMethod yX11_thrown ∈ gw := gm4 (i := 85) rfl rfl
theorem sl_X11_thrown : Cond.selects RX11 yX11_thrown yX11_thrown ∈ gw := gm4 (i := 86) rfl rfl
theorem cd_X11_thrown : Cond.code yX11_thrown cX11_thrown 1 (some FieldType.int) ∈ gw := gm4 (i := 87) rfl rfl
theorem cl_L_19 : Cond.classLink RL 19 RX11 ∈ gw := gm4 (i := 88) rfl rfl
theorem is_X11 : Cond.instantiable RX11 49 ∈ gw := gm4 (i := 89) rfl rfl
theorem ml_L_21 : Cond.methodLink RL 21 yX11_init ∈ gw := gm4 (i := 90) rfl rfl
theorem im_X11_init : Cond.instanceMethod yX11_init ∈ gw := gm4 (i := 91) rfl rfl
theorem cd_X11_init : Cond.code yX11_init cX11_init 2 (none : Option FieldType) ∈ gw := gm4 (i := 92) rfl rfl
theorem ml_X11_67 : Cond.methodLink RX11 67 objectInit ∈ gw := gm4 (i := 93) rfl rfl
theorem ml_L_31 : Cond.methodLink RL 31 yX11_steps ∈ gw := gm5 (i := 2) rfl rfl
theorem im_X11_steps : Cond.instanceMethod yX11_steps ∈ gw := gm5 (i := 3) rfl rfl
theorem sl_X11_steps : Cond.selects RX11 yX11_steps yX11_steps ∈ gw := gm5 (i := 4) rfl rfl
theorem cd_X11_steps : Cond.code yX11_steps cX11_steps 3 (some FieldType.int) ∈ gw := gm5 (i := 5) rfl rfl
theorem ml_X11_281 : Cond.methodLink RX11 281 yX11_turn ∈ gw := gm5 (i := 6) rfl rfl
theorem im_X11_turn : Cond.instanceMethod yX11_turn ∈ gw := gm5 (i := 8) rfl rfl
theorem cd_X11_turn : Cond.code yX11_turn cX11_turn 2 (none : Option FieldType) ∈ gw := gm5 (i := 9) rfl rfl
theorem ml_X11_29 : Cond.methodLink RX11 29 yX11_lives ∈ gw := gm5 (i := 10) rfl rfl
theorem im_X11_lives : Cond.instanceMethod yX11_lives ∈ gw := gm5 (i := 12) rfl rfl
theorem cd_X11_lives : Cond.code yX11_lives cX11_lives 2 (some FieldType.boolean) ∈ gw := gm5 (i := 13) rfl rfl
theorem ml_X11_11 : Cond.methodLink RX11 11 yX11_isUser ∈ gw := gm5 (i := 14) rfl rfl
theorem sm_X11_isUser : Cond.static yX11_isUser ∈ gw := gm5 (i := 15) rfl rfl
theorem cd_X11_isUser : Cond.code yX11_isUser cX11_isUser 1 (some FieldType.boolean) ∈ gw := gm5 (i := 16) rfl rfl
theorem ml_X11_266 : Cond.methodLink RX11 266 yX11_keeper ∈ gw := gm5 (i := 17) rfl rfl
theorem im_X11_keeper : Cond.instanceMethod yX11_keeper ∈ gw := gm5 (i := 19) rfl rfl
theorem cd_X11_keeper : Cond.code yX11_keeper cX11_keeper 1 (none : Option FieldType) ∈ gw := gm5 (i := 20) rfl rfl
theorem ml_X11_137 : Cond.methodLink RX11 137 yX11_sendsAgain ∈ gw := gm5 (i := 21) rfl rfl
theorem im_X11_sendsAgain : Cond.instanceMethod yX11_sendsAgain ∈ gw := gm5 (i := 23) rfl rfl
theorem cd_X11_sendsAgain : Cond.code yX11_sendsAgain cX11_sendsAgain 3 (some FieldType.boolean) ∈ gw := gm5 (i := 24) rfl rfl
theorem ml_X11_57 : Cond.methodLink RX11 57 yX11_sends ∈ gw := gm5 (i := 25) rfl rfl
theorem im_X11_sends : Cond.instanceMethod yX11_sends ∈ gw := gm5 (i := 27) rfl rfl
theorem cd_X11_sends : Cond.code yX11_sends cX11_sends 4 (none : Option FieldType) ∈ gw := gm5 (i := 28) rfl rfl
theorem ml_X11_47 : Cond.methodLink RX11 47 yX11_send ∈ gw := gm5 (i := 29) rfl rfl
theorem im_X11_send : Cond.instanceMethod yX11_send ∈ gw := gm5 (i := 31) rfl rfl
theorem cd_X11_send : Cond.code yX11_send cX11_send 6 (some FieldType.int) ∈ gw := gm5 (i := 32) rfl rfl
theorem ml_X11_22 : Cond.methodLink RX11 22 yX11_isAllowed ∈ gw := gm5 (i := 33) rfl rfl
theorem sm_X11_isAllowed : Cond.static yX11_isAllowed ∈ gw := gm5 (i := 34) rfl rfl
theorem cd_X11_isAllowed : Cond.code yX11_isAllowed cX11_isAllowed 2 (some FieldType.boolean) ∈ gw := gm5 (i := 35) rfl rfl
theorem ml_X11_140 : Cond.methodLink RX11 140 yX11_starts ∈ gw := gm5 (i := 36) rfl rfl
theorem im_X11_starts : Cond.instanceMethod yX11_starts ∈ gw := gm5 (i := 38) rfl rfl
theorem cd_X11_starts : Cond.code yX11_starts cX11_starts 1 (none : Option FieldType) ∈ gw := gm5 (i := 39) rfl rfl
theorem ml_X11_152 : Cond.methodLink RX11 152 yX11_drafts ∈ gw := gm5 (i := 40) rfl rfl
theorem im_X11_drafts : Cond.instanceMethod yX11_drafts ∈ gw := gm5 (i := 42) rfl rfl
theorem cd_X11_drafts : Cond.code yX11_drafts cX11_drafts 5 (none : Option FieldType) ∈ gw := gm5 (i := 43) rfl rfl
theorem ml_X11_143 : Cond.methodLink RX11 143 yX11_takeOut ∈ gw := gm5 (i := 44) rfl rfl
theorem im_X11_takeOut : Cond.instanceMethod yX11_takeOut ∈ gw := gm5 (i := 46) rfl rfl
theorem cd_X11_takeOut : Cond.code yX11_takeOut cX11_takeOut 5 (none : Option FieldType) ∈ gw := gm5 (i := 47) rfl rfl
theorem ml_X11_64 : Cond.methodLink RX11 64 yX11_drop ∈ gw := gm5 (i := 48) rfl rfl
theorem im_X11_drop : Cond.instanceMethod yX11_drop ∈ gw := gm5 (i := 50) rfl rfl
theorem cd_X11_drop : Cond.code yX11_drop cX11_drop 4 (none : Option FieldType) ∈ gw := gm5 (i := 51) rfl rfl
theorem ml_X11_149 : Cond.methodLink RX11 149 yX11_crashesNow ∈ gw := gm5 (i := 52) rfl rfl
theorem im_X11_crashesNow : Cond.instanceMethod yX11_crashesNow ∈ gw := gm5 (i := 54) rfl rfl
theorem cd_X11_crashesNow : Cond.code yX11_crashesNow cX11_crashesNow 1 (none : Option FieldType) ∈ gw := gm5 (i := 55) rfl rfl
theorem ml_X11_269 : Cond.methodLink RX11 269 yX11_driver ∈ gw := gm5 (i := 56) rfl rfl
theorem im_X11_driver : Cond.instanceMethod yX11_driver ∈ gw := gm5 (i := 58) rfl rfl
theorem cd_X11_driver : Cond.code yX11_driver cX11_driver 2 (none : Option FieldType) ∈ gw := gm5 (i := 59) rfl rfl
theorem ml_X11_156 : Cond.methodLink RX11 156 yX11_field ∈ gw := gm5 (i := 60) rfl rfl
theorem im_X11_field : Cond.instanceMethod yX11_field ∈ gw := gm5 (i := 62) rfl rfl
theorem cd_X11_field : Cond.code yX11_field cX11_field 4 (some FieldType.int) ∈ gw := gm5 (i := 63) rfl rfl
theorem ml_X11_160 : Cond.methodLink RX11 160 yX11_works ∈ gw := gm5 (i := 64) rfl rfl
theorem im_X11_works : Cond.instanceMethod yX11_works ∈ gw := gm5 (i := 66) rfl rfl
theorem cd_X11_works : Cond.code yX11_works cX11_works 2 (none : Option FieldType) ∈ gw := gm5 (i := 67) rfl rfl
theorem ml_X11_272 : Cond.methodLink RX11 272 yX11_files ∈ gw := gm5 (i := 68) rfl rfl
theorem im_X11_files : Cond.instanceMethod yX11_files ∈ gw := gm5 (i := 70) rfl rfl
theorem cd_X11_files : Cond.code yX11_files cX11_files 3 (none : Option FieldType) ∈ gw := gm5 (i := 71) rfl rfl
theorem ml_X11_169 : Cond.methodLink RX11 169 yX11_goesOn ∈ gw := gm5 (i := 72) rfl rfl
theorem im_X11_goesOn : Cond.instanceMethod yX11_goesOn ∈ gw := gm5 (i := 74) rfl rfl
theorem cd_X11_goesOn : Cond.code yX11_goesOn cX11_goesOn 4 (none : Option FieldType) ∈ gw := gm5 (i := 75) rfl rfl
theorem ml_X11_196 : Cond.methodLink RX11 196 yX11_tells ∈ gw := gm5 (i := 76) rfl rfl
theorem im_X11_tells : Cond.instanceMethod yX11_tells ∈ gw := gm5 (i := 78) rfl rfl
theorem cd_X11_tells : Cond.code yX11_tells cX11_tells 4 (none : Option FieldType) ∈ gw := gm5 (i := 79) rfl rfl
theorem ml_X11_172 : Cond.methodLink RX11 172 yX11_asksDriver ∈ gw := gm5 (i := 80) rfl rfl
theorem im_X11_asksDriver : Cond.instanceMethod yX11_asksDriver ∈ gw := gm5 (i := 82) rfl rfl
theorem cd_X11_asksDriver : Cond.code yX11_asksDriver cX11_asksDriver 2 (none : Option FieldType) ∈ gw := gm5 (i := 83) rfl rfl
theorem ml_X11_175 : Cond.methodLink RX11 175 yX11_copies ∈ gw := gm5 (i := 84) rfl rfl
theorem im_X11_copies : Cond.instanceMethod yX11_copies ∈ gw := gm5 (i := 86) rfl rfl
theorem cd_X11_copies : Cond.code yX11_copies cX11_copies 4 (none : Option FieldType) ∈ gw := gm5 (i := 87) rfl rfl
theorem ml_X11_178 : Cond.methodLink RX11 178 yX11_closesAll ∈ gw := gm5 (i := 88) rfl rfl
theorem im_X11_closesAll : Cond.instanceMethod yX11_closesAll ∈ gw := gm5 (i := 90) rfl rfl
theorem cd_X11_closesAll : Cond.code yX11_closesAll cX11_closesAll 3 (none : Option FieldType) ∈ gw := gm5 (i := 91) rfl rfl
theorem ml_X11_182 : Cond.methodLink RX11 182 yX11_begins ∈ gw := gm5 (i := 92) rfl rfl
theorem im_X11_begins : Cond.instanceMethod yX11_begins ∈ gw := gm5 (i := 94) rfl rfl
theorem cd_X11_begins : Cond.code yX11_begins cX11_begins 8 (none : Option FieldType) ∈ gw := gm5 (i := 95) rfl rfl
theorem ml_X11_192 : Cond.methodLink RX11 192 yX11_opens ∈ gw := gm5 (i := 96) rfl rfl
theorem im_X11_opens : Cond.instanceMethod yX11_opens ∈ gw := gm5 (i := 98) rfl rfl
theorem cd_X11_opens : Cond.code yX11_opens cX11_opens 4 (some FieldType.int) ∈ gw := gm5 (i := 99) rfl rfl
theorem ml_X11_209 : Cond.methodLink RX11 209 yX11_filesThere ∈ gw := gm5 (i := 100) rfl rfl
theorem im_X11_filesThere : Cond.instanceMethod yX11_filesThere ∈ gw := gm5 (i := 102) rfl rfl
theorem cd_X11_filesThere : Cond.code yX11_filesThere cX11_filesThere 3 (some FieldType.int) ∈ gw := gm5 (i := 103) rfl rfl
theorem ml_X11_199 : Cond.methodLink RX11 199 yX11_removes ∈ gw := gm5 (i := 104) rfl rfl
theorem im_X11_removes : Cond.instanceMethod yX11_removes ∈ gw := gm5 (i := 106) rfl rfl
theorem cd_X11_removes : Cond.code yX11_removes cX11_removes 3 (some FieldType.int) ∈ gw := gm5 (i := 107) rfl rfl
theorem ml_X11_203 : Cond.methodLink RX11 203 yX11_reads ∈ gw := gm5 (i := 108) rfl rfl
theorem im_X11_reads : Cond.instanceMethod yX11_reads ∈ gw := gm5 (i := 110) rfl rfl
theorem cd_X11_reads : Cond.code yX11_reads cX11_reads 5 (none : Option FieldType) ∈ gw := gm5 (i := 111) rfl rfl
theorem ml_X11_206 : Cond.methodLink RX11 206 yX11_writes ∈ gw := gm5 (i := 112) rfl rfl
theorem im_X11_writes : Cond.instanceMethod yX11_writes ∈ gw := gm5 (i := 114) rfl rfl
theorem cd_X11_writes : Cond.code yX11_writes cX11_writes 8 (none : Option FieldType) ∈ gw := gm5 (i := 115) rfl rfl
theorem ml_X11_275 : Cond.methodLink RX11 275 yX11_processes ∈ gw := gm5 (i := 116) rfl rfl
theorem im_X11_processes : Cond.instanceMethod yX11_processes ∈ gw := gm5 (i := 118) rfl rfl
theorem cd_X11_processes : Cond.code yX11_processes cX11_processes 4 (none : Option FieldType) ∈ gw := gm5 (i := 119) rfl rfl
theorem ml_X11_228 : Cond.methodLink RX11 228 yX11_forks ∈ gw := gm5 (i := 120) rfl rfl
theorem im_X11_forks : Cond.instanceMethod yX11_forks ∈ gw := gm5 (i := 122) rfl rfl
theorem cd_X11_forks : Cond.code yX11_forks cX11_forks 3 (none : Option FieldType) ∈ gw := gm5 (i := 123) rfl rfl
theorem ml_X11_245 : Cond.methodLink RX11 245 yX11_holds ∈ gw := gm5 (i := 124) rfl rfl
theorem im_X11_holds : Cond.instanceMethod yX11_holds ∈ gw := gm5 (i := 126) rfl rfl
theorem cd_X11_holds : Cond.code yX11_holds cX11_holds 4 (none : Option FieldType) ∈ gw := gm5 (i := 127) rfl rfl
theorem ml_X11_231 : Cond.methodLink RX11 231 yJ9_floorMod_7cf53 ∈ gw := gm5 (i := 128) rfl rfl
theorem ml_X11_236 : Cond.methodLink RX11 236 yX11_ends ∈ gw := gm5 (i := 129) rfl rfl
theorem im_X11_ends : Cond.instanceMethod yX11_ends ∈ gw := gm5 (i := 131) rfl rfl
theorem cd_X11_ends : Cond.code yX11_ends cX11_ends 7 (none : Option FieldType) ∈ gw := gm5 (i := 132) rfl rfl
theorem ml_X11_239 : Cond.methodLink RX11 239 yX11_waitsFor ∈ gw := gm5 (i := 133) rfl rfl
theorem im_X11_waitsFor : Cond.instanceMethod yX11_waitsFor ∈ gw := gm5 (i := 135) rfl rfl
theorem cd_X11_waitsFor : Cond.code yX11_waitsFor cX11_waitsFor 6 (none : Option FieldType) ∈ gw := gm5 (i := 136) rfl rfl
theorem ml_X11_257 : Cond.methodLink RX11 257 yX11_freed ∈ gw := gm5 (i := 137) rfl rfl
theorem im_X11_freed : Cond.instanceMethod yX11_freed ∈ gw := gm5 (i := 139) rfl rfl
theorem cd_X11_freed : Cond.code yX11_freed cX11_freed 2 (some FieldType.int) ∈ gw := gm5 (i := 140) rfl rfl
theorem ml_X11_242 : Cond.methodLink RX11 242 yX11_done ∈ gw := gm5 (i := 141) rfl rfl
theorem im_X11_done : Cond.instanceMethod yX11_done ∈ gw := gm5 (i := 143) rfl rfl
theorem cd_X11_done : Cond.code yX11_done cX11_done 3 (none : Option FieldType) ∈ gw := gm5 (i := 144) rfl rfl
theorem ml_X11_278 : Cond.methodLink RX11 278 yX11_ofUser ∈ gw := gm5 (i := 145) rfl rfl
theorem im_X11_ofUser : Cond.instanceMethod yX11_ofUser ∈ gw := gm5 (i := 147) rfl rfl
theorem cd_X11_ofUser : Cond.code yX11_ofUser cX11_ofUser 2 (none : Option FieldType) ∈ gw := gm5 (i := 148) rfl rfl
theorem ml_L_35 : Cond.methodLink RL 35 yX11_until ∈ gw := gm5 (i := 149) rfl rfl
theorem im_X11_until : Cond.instanceMethod yX11_until ∈ gw := gm5 (i := 150) rfl rfl
theorem sl_X11_until : Cond.selects RX11 yX11_until yX11_until ∈ gw := gm5 (i := 151) rfl rfl
theorem cd_X11_until : Cond.code yX11_until cX11_until 4 (some FieldType.int) ∈ gw := gm5 (i := 152) rfl rfl
theorem ml_L_26 : Cond.methodLink RL 26 yX11_call ∈ gw := gm5 (i := 153) rfl rfl
theorem im_X11_call : Cond.instanceMethod yX11_call ∈ gw := gm5 (i := 154) rfl rfl
theorem sl_X11_call : Cond.selects RX11 yX11_call yX11_call ∈ gw := gm5 (i := 155) rfl rfl
theorem cd_X11_call : Cond.code yX11_call cX11_call 5 (some FieldType.int) ∈ gw := gm5 (i := 156) rfl rfl
theorem ml_L_40 : Cond.methodLink RL 40 yX11_crash ∈ gw := gm5 (i := 157) rfl rfl
theorem im_X11_crash : Cond.instanceMethod yX11_crash ∈ gw := gm5 (i := 158) rfl rfl
theorem sl_X11_crash : Cond.selects RX11 yX11_crash yX11_crash ∈ gw := gm5 (i := 159) rfl rfl
theorem cd_X11_crash : Cond.code yX11_crash cX11_crash 1 (some FieldType.boolean) ∈ gw := gm5 (i := 160) rfl rfl
theorem ml_L_44 : Cond.methodLink RL 44 yX11_hang ∈ gw := gm5 (i := 161) rfl rfl
theorem im_X11_hang : Cond.instanceMethod yX11_hang ∈ gw := gm5 (i := 162) rfl rfl
theorem sl_X11_hang : Cond.selects RX11 yX11_hang yX11_hang ∈ gw := gm5 (i := 163) rfl rfl
theorem cd_X11_hang : Cond.code yX11_hang cX11_hang 1 (some FieldType.boolean) ∈ gw := gm5 (i := 164) rfl rfl
theorem ml_L_48 : Cond.methodLink RL 48 yX11_force ∈ gw := gm5 (i := 165) rfl rfl
theorem im_X11_force : Cond.instanceMethod yX11_force ∈ gw := gm5 (i := 166) rfl rfl
theorem sl_X11_force : Cond.selects RX11 yX11_force yX11_force ∈ gw := gm5 (i := 167) rfl rfl
theorem cd_X11_force : Cond.code yX11_force cX11_force 3 (some FieldType.int) ∈ gw := gm5 (i := 168) rfl rfl
theorem ml_X11_284 : Cond.methodLink RX11 284 yX11_isPart ∈ gw := gm5 (i := 169) rfl rfl
theorem sm_X11_isPart : Cond.static yX11_isPart ∈ gw := gm5 (i := 170) rfl rfl
theorem cd_X11_isPart : Cond.code yX11_isPart cX11_isPart 1 (some FieldType.boolean) ∈ gw := gm5 (i := 171) rfl rfl
theorem ml_L_54 : Cond.methodLink RL 54 yX11_user ∈ gw := gm5 (i := 172) rfl rfl
theorem im_X11_user : Cond.instanceMethod yX11_user ∈ gw := gm5 (i := 173) rfl rfl
theorem sl_X11_user : Cond.selects RX11 yX11_user yX11_user ∈ gw := gm5 (i := 174) rfl rfl
theorem cd_X11_user : Cond.code yX11_user cX11_user 5 (some FieldType.int) ∈ gw := gm5 (i := 175) rfl rfl
theorem ml_L_63 : Cond.methodLink RL 63 yX11_descriptor ∈ gw := gm5 (i := 176) rfl rfl
theorem im_X11_descriptor : Cond.instanceMethod yX11_descriptor ∈ gw := gm5 (i := 177) rfl rfl
theorem sl_X11_descriptor : Cond.selects RX11 yX11_descriptor yX11_descriptor ∈ gw := gm5 (i := 178) rfl rfl
theorem cd_X11_descriptor : Cond.code yX11_descriptor cX11_descriptor 4 (some FieldType.int) ∈ gw := gm5 (i := 179) rfl rfl
theorem ml_L_67 : Cond.methodLink RL 67 yX11_file ∈ gw := gm5 (i := 180) rfl rfl
theorem im_X11_file : Cond.instanceMethod yX11_file ∈ gw := gm5 (i := 181) rfl rfl
theorem sl_X11_file : Cond.selects RX11 yX11_file yX11_file ∈ gw := gm5 (i := 182) rfl rfl
theorem cd_X11_file : Cond.code yX11_file cX11_file 3 (some FieldType.int) ∈ gw := gm5 (i := 183) rfl rfl
theorem ml_L_70 : Cond.methodLink RL 70 yX11_disk ∈ gw := gm5 (i := 184) rfl rfl
theorem im_X11_disk : Cond.instanceMethod yX11_disk ∈ gw := gm5 (i := 185) rfl rfl
theorem sl_X11_disk : Cond.selects RX11 yX11_disk yX11_disk ∈ gw := gm5 (i := 186) rfl rfl
theorem cd_X11_disk : Cond.code yX11_disk cX11_disk 3 (some FieldType.int) ∈ gw := gm5 (i := 187) rfl rfl
theorem ml_L_74 : Cond.methodLink RL 74 yX11_inbox ∈ gw := gm5 (i := 188) rfl rfl
theorem im_X11_inbox : Cond.instanceMethod yX11_inbox ∈ gw := gm5 (i := 189) rfl rfl
theorem sl_X11_inbox : Cond.selects RX11 yX11_inbox yX11_inbox ∈ gw := gm5 (i := 190) rfl rfl
theorem cd_X11_inbox : Cond.code yX11_inbox cX11_inbox 2 (some FieldType.int) ∈ gw := gm5 (i := 191) rfl rfl
theorem ml_L_78 : Cond.methodLink RL 78 yX11_message ∈ gw := gm5 (i := 192) rfl rfl
theorem im_X11_message : Cond.instanceMethod yX11_message ∈ gw := gm5 (i := 193) rfl rfl
theorem sl_X11_message : Cond.selects RX11 yX11_message yX11_message ∈ gw := gm5 (i := 194) rfl rfl
theorem cd_X11_message : Cond.code yX11_message cX11_message 4 (some FieldType.int) ∈ gw := gm5 (i := 195) rfl rfl
theorem ml_L_82 : Cond.methodLink RL 82 yX11_count ∈ gw := gm5 (i := 196) rfl rfl
theorem im_X11_count : Cond.instanceMethod yX11_count ∈ gw := gm5 (i := 197) rfl rfl
theorem sl_X11_count : Cond.selects RX11 yX11_count yX11_count ∈ gw := gm5 (i := 198) rfl rfl
theorem cd_X11_count : Cond.code yX11_count cX11_count 5 (some FieldType.int) ∈ gw := gm5 (i := 199) rfl rfl
theorem ac_long : Cond.arrayClass .long ∈ gw := gm5 (i := 200) rfl rfl
theorem sl_X10_giveTurn : Cond.selects RX10 yX10_giveTurn yX10_giveTurn ∈ gw := gp1 (i := 0) (q := (yX10_giveTurn, _)) rfl rfl
theorem sl_X5_watchDead : Cond.selects RX5 yX5_watchDead yX5_watchDead ∈ gw := gp1 (i := 1) (q := (yX5_watchDead, _)) rfl rfl
theorem sl_X5_check : Cond.selects RX5 yX5_check yX5_check ∈ gw := gp1 (i := 2) (q := (yX5_check, _)) rfl rfl
theorem sl_X10_breakDriver : Cond.selects RX10 yX10_breakDriver yX10_breakDriver ∈ gw := gp1 (i := 3) (q := (yX10_breakDriver, _)) rfl rfl
theorem sl_X2_work : Cond.selects RX2 yX2_work yX2_work ∈ gw := gp1 (i := 4) (q := (yX2_work, _)) rfl rfl
theorem sl_X2_begin : Cond.selects RX2 yX2_begin yX2_begin ∈ gw := gp1 (i := 5) (q := (yX2_begin, _)) rfl rfl
theorem sl_X3_openFile : Cond.selects RX3 yX3_openFile yX3_openFile ∈ gw := gp1 (i := 6) (q := (yX3_openFile, _)) rfl rfl
theorem sl_X7_slot : Cond.selects RX7 yX7_slot yX7_slot ∈ gw := gp1 (i := 7) (q := (yX7_slot, _)) rfl rfl
theorem sl_X3_removeFile : Cond.selects RX3 yX3_removeFile yX3_removeFile ∈ gw := gp1 (i := 8) (q := (yX3_removeFile, _)) rfl rfl
theorem sl_X4_release : Cond.selects RX4 yX4_release yX4_release ∈ gw := gp1 (i := 9) (q := (yX4_release, _)) rfl rfl
theorem sl_X3_read : Cond.selects RX3 yX3_read yX3_read ∈ gw := gp1 (i := 10) (q := (yX3_read, _)) rfl rfl
theorem sl_X3_takeInHand : Cond.selects RX3 yX3_takeInHand yX3_takeInHand ∈ gw := gp1 (i := 11) (q := (yX3_takeInHand, _)) rfl rfl
theorem sl_X3_ask : Cond.selects RX3 yX3_ask yX3_ask ∈ gw := gp1 (i := 12) (q := (yX3_ask, _)) rfl rfl
theorem sl_X3_write : Cond.selects RX3 yX3_write yX3_write ∈ gw := gp1 (i := 13) (q := (yX3_write, _)) rfl rfl
theorem sl_X3_whyNotWrite : Cond.selects RX3 yX3_whyNotWrite yX3_whyNotWrite ∈ gw := gp1 (i := 14) (q := (yX3_whyNotWrite, _)) rfl rfl
theorem sl_X3_goOn : Cond.selects RX3 yX3_goOn yX3_goOn ∈ gw := gp1 (i := 15) (q := (yX3_goOn, _)) rfl rfl
theorem sl_X3_hearOfLife : Cond.selects RX3 yX3_hearOfLife yX3_hearOfLife ∈ gw := gp2 (i := 0) (q := (yX3_hearOfLife, _)) rfl rfl
theorem sl_X3_handle : Cond.selects RX3 yX3_handle yX3_handle ∈ gw := gp2 (i := 1) (q := (yX3_handle, _)) rfl rfl
theorem sl_X8_goOn : Cond.selects RX8 yX8_goOn yX8_goOn ∈ gw := gp2 (i := 2) (q := (yX8_goOn, _)) rfl rfl
theorem sl_X8_leaveChildren : Cond.selects RX8 yX8_leaveChildren yX8_leaveChildren ∈ gw := gp2 (i := 3) (q := (yX8_leaveChildren, _)) rfl rfl
theorem sl_X8_collect : Cond.selects RX8 yX8_collect yX8_collect ∈ gw := gp2 (i := 4) (q := (yX8_collect, _)) rfl rfl
theorem sl_X8_fork : Cond.selects RX8 yX8_fork yX8_fork ∈ gw := gp2 (i := 5) (q := (yX8_fork, _)) rfl rfl
theorem sl_X8_waitFor : Cond.selects RX8 yX8_waitFor yX8_waitFor ∈ gw := gp2 (i := 6) (q := (yX8_waitFor, _)) rfl rfl
theorem sl_X8_end : Cond.selects RX8 yX8_end yX8_end ∈ gw := gp2 (i := 7) (q := (yX8_end, _)) rfl rfl
theorem sl_X8_await : Cond.selects RX8 yX8_await yX8_await ∈ gw := gp2 (i := 8) (q := (yX8_await, _)) rfl rfl
theorem sl_X11_turn : Cond.selects RX11 yX11_turn yX11_turn ∈ gw := gp2 (i := 10) (q := (yX11_turn, _)) rfl rfl
theorem sl_X11_lives : Cond.selects RX11 yX11_lives yX11_lives ∈ gw := gp2 (i := 11) (q := (yX11_lives, _)) rfl rfl
theorem sl_X11_keeper : Cond.selects RX11 yX11_keeper yX11_keeper ∈ gw := gp2 (i := 12) (q := (yX11_keeper, _)) rfl rfl
theorem sl_X11_sendsAgain : Cond.selects RX11 yX11_sendsAgain yX11_sendsAgain ∈ gw := gp2 (i := 13) (q := (yX11_sendsAgain, _)) rfl rfl
theorem sl_X11_sends : Cond.selects RX11 yX11_sends yX11_sends ∈ gw := gp2 (i := 14) (q := (yX11_sends, _)) rfl rfl
theorem sl_X11_send : Cond.selects RX11 yX11_send yX11_send ∈ gw := gp2 (i := 15) (q := (yX11_send, _)) rfl rfl
theorem sl_X11_starts : Cond.selects RX11 yX11_starts yX11_starts ∈ gw := gp3 (i := 0) (q := (yX11_starts, _)) rfl rfl
theorem sl_X11_drafts : Cond.selects RX11 yX11_drafts yX11_drafts ∈ gw := gp3 (i := 1) (q := (yX11_drafts, _)) rfl rfl
theorem sl_X11_takeOut : Cond.selects RX11 yX11_takeOut yX11_takeOut ∈ gw := gp3 (i := 2) (q := (yX11_takeOut, _)) rfl rfl
theorem sl_X11_drop : Cond.selects RX11 yX11_drop yX11_drop ∈ gw := gp3 (i := 3) (q := (yX11_drop, _)) rfl rfl
theorem sl_X11_crashesNow : Cond.selects RX11 yX11_crashesNow yX11_crashesNow ∈ gw := gp3 (i := 4) (q := (yX11_crashesNow, _)) rfl rfl
theorem sl_X11_driver : Cond.selects RX11 yX11_driver yX11_driver ∈ gw := gp3 (i := 5) (q := (yX11_driver, _)) rfl rfl
theorem sl_X11_field : Cond.selects RX11 yX11_field yX11_field ∈ gw := gp3 (i := 6) (q := (yX11_field, _)) rfl rfl
theorem sl_X11_works : Cond.selects RX11 yX11_works yX11_works ∈ gw := gp3 (i := 7) (q := (yX11_works, _)) rfl rfl
theorem sl_X11_files : Cond.selects RX11 yX11_files yX11_files ∈ gw := gp3 (i := 8) (q := (yX11_files, _)) rfl rfl
theorem sl_X11_goesOn : Cond.selects RX11 yX11_goesOn yX11_goesOn ∈ gw := gp3 (i := 9) (q := (yX11_goesOn, _)) rfl rfl
theorem sl_X11_tells : Cond.selects RX11 yX11_tells yX11_tells ∈ gw := gp3 (i := 10) (q := (yX11_tells, _)) rfl rfl
theorem sl_X11_asksDriver : Cond.selects RX11 yX11_asksDriver yX11_asksDriver ∈ gw := gp3 (i := 11) (q := (yX11_asksDriver, _)) rfl rfl
theorem sl_X11_copies : Cond.selects RX11 yX11_copies yX11_copies ∈ gw := gp3 (i := 12) (q := (yX11_copies, _)) rfl rfl
theorem sl_X11_closesAll : Cond.selects RX11 yX11_closesAll yX11_closesAll ∈ gw := gp3 (i := 13) (q := (yX11_closesAll, _)) rfl rfl
theorem sl_X11_begins : Cond.selects RX11 yX11_begins yX11_begins ∈ gw := gp3 (i := 14) (q := (yX11_begins, _)) rfl rfl
theorem sl_X11_opens : Cond.selects RX11 yX11_opens yX11_opens ∈ gw := gp3 (i := 15) (q := (yX11_opens, _)) rfl rfl
theorem sl_X11_filesThere : Cond.selects RX11 yX11_filesThere yX11_filesThere ∈ gw := gp4 (i := 0) (q := (yX11_filesThere, _)) rfl rfl
theorem sl_X11_removes : Cond.selects RX11 yX11_removes yX11_removes ∈ gw := gp4 (i := 1) (q := (yX11_removes, _)) rfl rfl
theorem sl_X11_reads : Cond.selects RX11 yX11_reads yX11_reads ∈ gw := gp4 (i := 2) (q := (yX11_reads, _)) rfl rfl
theorem sl_X11_writes : Cond.selects RX11 yX11_writes yX11_writes ∈ gw := gp4 (i := 3) (q := (yX11_writes, _)) rfl rfl
theorem sl_X11_processes : Cond.selects RX11 yX11_processes yX11_processes ∈ gw := gp4 (i := 4) (q := (yX11_processes, _)) rfl rfl
theorem sl_X11_forks : Cond.selects RX11 yX11_forks yX11_forks ∈ gw := gp4 (i := 5) (q := (yX11_forks, _)) rfl rfl
theorem sl_X11_holds : Cond.selects RX11 yX11_holds yX11_holds ∈ gw := gp4 (i := 6) (q := (yX11_holds, _)) rfl rfl
theorem sl_X11_ends : Cond.selects RX11 yX11_ends yX11_ends ∈ gw := gp4 (i := 7) (q := (yX11_ends, _)) rfl rfl
theorem sl_X11_waitsFor : Cond.selects RX11 yX11_waitsFor yX11_waitsFor ∈ gw := gp4 (i := 8) (q := (yX11_waitsFor, _)) rfl rfl
theorem sl_X11_freed : Cond.selects RX11 yX11_freed yX11_freed ∈ gw := gp4 (i := 9) (q := (yX11_freed, _)) rfl rfl
theorem sl_X11_done : Cond.selects RX11 yX11_done yX11_done ∈ gw := gp4 (i := 10) (q := (yX11_done, _)) rfl rfl
theorem sl_X11_ofUser : Cond.selects RX11 yX11_ofUser yX11_ofUser ∈ gw := gp4 (i := 11) (q := (yX11_ofUser, _)) rfl rfl
def ab_FL (own : String) (idx ci k : Nat) : Prop := ∃ (C : String) (T : u_T) (N : Nat), vwCl[ci]? = some (C, T, N) ∧ k < N ∧ Cond.fieldLink own idx (T k).1 (T k).2.1 (T k).2.2.1 ∈ gw
theorem fl_X6_9 : ab_FL RX6 9 6 0 := ⟨_, _, _, rfl, by decide, gm1 (i := 41) rfl rfl⟩
theorem fl_X3_86 : ab_FL RX3 86 6 0 := ⟨_, _, _, rfl, by decide, gm1 (i := 42) rfl rfl⟩
theorem fl_X2_61 : ab_FL RX2 61 6 0 := ⟨_, _, _, rfl, by decide, gm1 (i := 43) rfl rfl⟩
theorem fl_X6_22 : ab_FL RX6 22 6 1 := ⟨_, _, _, rfl, by decide, gm1 (i := 44) rfl rfl⟩
theorem fl_X3_58 : ab_FL RX3 58 6 1 := ⟨_, _, _, rfl, by decide, gm1 (i := 45) rfl rfl⟩
theorem fl_X0_25 : ab_FL RX0 25 6 1 := ⟨_, _, _, rfl, by decide, gm1 (i := 46) rfl rfl⟩
theorem fl_X8_49 : ab_FL RX8 49 6 1 := ⟨_, _, _, rfl, by decide, gm1 (i := 47) rfl rfl⟩
theorem fl_X1_56 : ab_FL RX1 56 6 1 := ⟨_, _, _, rfl, by decide, gm1 (i := 48) rfl rfl⟩
theorem fl_X10_166 : ab_FL RX10 166 6 1 := ⟨_, _, _, rfl, by decide, gm1 (i := 49) rfl rfl⟩
theorem fl_X6_25 : ab_FL RX6 25 6 2 := ⟨_, _, _, rfl, by decide, gm1 (i := 50) rfl rfl⟩
theorem fl_X5_31 : ab_FL RX5 31 6 2 := ⟨_, _, _, rfl, by decide, gm1 (i := 51) rfl rfl⟩
theorem fl_X3_53 : ab_FL RX3 53 6 2 := ⟨_, _, _, rfl, by decide, gm1 (i := 52) rfl rfl⟩
theorem fl_X2_50 : ab_FL RX2 50 6 2 := ⟨_, _, _, rfl, by decide, gm1 (i := 53) rfl rfl⟩
theorem fl_X9_38 : ab_FL RX9 38 6 2 := ⟨_, _, _, rfl, by decide, gm1 (i := 54) rfl rfl⟩
theorem fl_X0_22 : ab_FL RX0 22 6 2 := ⟨_, _, _, rfl, by decide, gm1 (i := 55) rfl rfl⟩
theorem fl_X8_58 : ab_FL RX8 58 6 2 := ⟨_, _, _, rfl, by decide, gm1 (i := 56) rfl rfl⟩
theorem fl_X10_171 : ab_FL RX10 171 6 2 := ⟨_, _, _, rfl, by decide, gm1 (i := 57) rfl rfl⟩
theorem fl_X6_28 : ab_FL RX6 28 6 3 := ⟨_, _, _, rfl, by decide, gm1 (i := 58) rfl rfl⟩
theorem fl_X3_61 : ab_FL RX3 61 6 3 := ⟨_, _, _, rfl, by decide, gm1 (i := 59) rfl rfl⟩
theorem fl_X2_55 : ab_FL RX2 55 6 3 := ⟨_, _, _, rfl, by decide, gm1 (i := 60) rfl rfl⟩
theorem fl_X9_44 : ab_FL RX9 44 6 3 := ⟨_, _, _, rfl, by decide, gm1 (i := 61) rfl rfl⟩
theorem fl_X8_69 : ab_FL RX8 69 6 3 := ⟨_, _, _, rfl, by decide, gm1 (i := 62) rfl rfl⟩
theorem fl_X10_174 : ab_FL RX10 174 6 3 := ⟨_, _, _, rfl, by decide, gm1 (i := 63) rfl rfl⟩
theorem fl_X6_31 : ab_FL RX6 31 6 4 := ⟨_, _, _, rfl, by decide, gm1 (i := 64) rfl rfl⟩
theorem fl_X3_79 : ab_FL RX3 79 6 4 := ⟨_, _, _, rfl, by decide, gm1 (i := 65) rfl rfl⟩
theorem fl_X10_177 : ab_FL RX10 177 6 4 := ⟨_, _, _, rfl, by decide, gm1 (i := 66) rfl rfl⟩
theorem fl_X6_34 : ab_FL RX6 34 6 5 := ⟨_, _, _, rfl, by decide, gm1 (i := 67) rfl rfl⟩
theorem fl_X10_180 : ab_FL RX10 180 6 5 := ⟨_, _, _, rfl, by decide, gm1 (i := 68) rfl rfl⟩
theorem fl_X6_15 : ab_FL RX6 15 6 6 := ⟨_, _, _, rfl, by decide, gm1 (i := 69) rfl rfl⟩
theorem fl_X1_66 : ab_FL RX1 66 6 6 := ⟨_, _, _, rfl, by decide, gm1 (i := 70) rfl rfl⟩
theorem fl_X3_189 : ab_FL RX3 189 6 6 := ⟨_, _, _, rfl, by decide, gm1 (i := 71) rfl rfl⟩
theorem fl_X6_19 : ab_FL RX6 19 6 7 := ⟨_, _, _, rfl, by decide, gm1 (i := 72) rfl rfl⟩
theorem fl_X1_53 : ab_FL RX1 53 6 7 := ⟨_, _, _, rfl, by decide, gm1 (i := 73) rfl rfl⟩
theorem fl_X0_11 : ab_FL RX0 11 0 0 := ⟨_, _, _, rfl, by decide, gm1 (i := 100) rfl rfl⟩
theorem fl_X0_18 : ab_FL RX0 18 0 1 := ⟨_, _, _, rfl, by decide, gm1 (i := 101) rfl rfl⟩
theorem fl_X1_80 : ab_FL RX1 80 0 1 := ⟨_, _, _, rfl, by decide, gm1 (i := 102) rfl rfl⟩
theorem fl_X10_157 : ab_FL RX10 157 0 1 := ⟨_, _, _, rfl, by decide, gm1 (i := 103) rfl rfl⟩
theorem fl_X1_11 : ab_FL RX1 11 1 0 := ⟨_, _, _, rfl, by decide, gm1 (i := 109) rfl rfl⟩
theorem fl_X2_22 : ab_FL RX2 22 1 0 := ⟨_, _, _, rfl, by decide, gm1 (i := 110) rfl rfl⟩
theorem fl_X3_33 : ab_FL RX3 33 1 0 := ⟨_, _, _, rfl, by decide, gm1 (i := 111) rfl rfl⟩
theorem fl_X5_21 : ab_FL RX5 21 1 0 := ⟨_, _, _, rfl, by decide, gm1 (i := 112) rfl rfl⟩
theorem fl_X9_26 : ab_FL RX9 26 1 0 := ⟨_, _, _, rfl, by decide, gm1 (i := 113) rfl rfl⟩
theorem fl_X8_29 : ab_FL RX8 29 1 0 := ⟨_, _, _, rfl, by decide, gm1 (i := 114) rfl rfl⟩
theorem fl_X10_153 : ab_FL RX10 153 1 0 := ⟨_, _, _, rfl, by decide, gm1 (i := 115) rfl rfl⟩
theorem fl_X1_17 : ab_FL RX1 17 1 1 := ⟨_, _, _, rfl, by decide, gm1 (i := 116) rfl rfl⟩
theorem fl_X5_9 : ab_FL RX5 9 1 1 := ⟨_, _, _, rfl, by decide, gm1 (i := 117) rfl rfl⟩
theorem fl_X10_65 : ab_FL RX10 65 1 1 := ⟨_, _, _, rfl, by decide, gm1 (i := 118) rfl rfl⟩
theorem fl_X8_85 : ab_FL RX8 85 1 1 := ⟨_, _, _, rfl, by decide, gm1 (i := 119) rfl rfl⟩
theorem fl_X1_23 : ab_FL RX1 23 1 2 := ⟨_, _, _, rfl, by decide, gm1 (i := 120) rfl rfl⟩
theorem fl_X1_28 : ab_FL RX1 28 1 3 := ⟨_, _, _, rfl, by decide, gm1 (i := 121) rfl rfl⟩
theorem fl_X1_32 : ab_FL RX1 32 1 4 := ⟨_, _, _, rfl, by decide, gm1 (i := 122) rfl rfl⟩
theorem fl_X5_58 : ab_FL RX5 58 1 4 := ⟨_, _, _, rfl, by decide, gm1 (i := 123) rfl rfl⟩
theorem fl_X10_183 : ab_FL RX10 183 1 4 := ⟨_, _, _, rfl, by decide, gm1 (i := 124) rfl rfl⟩
theorem fl_X1_63 : ab_FL RX1 63 1 5 := ⟨_, _, _, rfl, by decide, gm1 (i := 125) rfl rfl⟩
theorem fl_X10_196 : ab_FL RX10 196 1 5 := ⟨_, _, _, rfl, by decide, gm1 (i := 126) rfl rfl⟩
theorem fl_X1_77 : ab_FL RX1 77 1 6 := ⟨_, _, _, rfl, by decide, gm1 (i := 127) rfl rfl⟩
theorem fl_X10_208 : ab_FL RX10 208 1 6 := ⟨_, _, _, rfl, by decide, gm1 (i := 128) rfl rfl⟩
theorem fl_X5_41 : ab_FL RX5 41 5 0 := ⟨_, _, _, rfl, by decide, gm1 (i := 150) rfl rfl⟩
theorem fl_X10_211 : ab_FL RX10 211 5 0 := ⟨_, _, _, rfl, by decide, gm1 (i := 151) rfl rfl⟩
theorem fl_X5_52 : ab_FL RX5 52 5 1 := ⟨_, _, _, rfl, by decide, gm1 (i := 152) rfl rfl⟩
theorem fl_X10_238 : ab_FL RX10 238 5 1 := ⟨_, _, _, rfl, by decide, gm1 (i := 153) rfl rfl⟩
theorem fl_X5_37 : ab_FL RX5 37 5 2 := ⟨_, _, _, rfl, by decide, gm1 (i := 154) rfl rfl⟩
theorem fl_X2_9 : ab_FL RX2 9 2 0 := ⟨_, _, _, rfl, by decide, gm1 (i := 168) rfl rfl⟩
theorem fl_X10_150 : ab_FL RX10 150 2 0 := ⟨_, _, _, rfl, by decide, gm1 (i := 169) rfl rfl⟩
theorem fl_X2_15 : ab_FL RX2 15 2 1 := ⟨_, _, _, rfl, by decide, gm1 (i := 170) rfl rfl⟩
theorem fl_X2_77 : ab_FL RX2 77 2 2 := ⟨_, _, _, rfl, by decide, gm1 (i := 171) rfl rfl⟩
theorem fl_X10_86 : ab_FL RX10 86 2 2 := ⟨_, _, _, rfl, by decide, gm1 (i := 172) rfl rfl⟩
theorem fl_X2_62 : ab_FL RX2 62 2 3 := ⟨_, _, _, rfl, by decide, gm1 (i := 173) rfl rfl⟩
theorem fl_X10_186 : ab_FL RX10 186 2 3 := ⟨_, _, _, rfl, by decide, gm1 (i := 174) rfl rfl⟩
theorem fl_X2_18 : ab_FL RX2 18 2 4 := ⟨_, _, _, rfl, by decide, gm1 (i := 175) rfl rfl⟩
theorem fl_X10_189 : ab_FL RX10 189 2 4 := ⟨_, _, _, rfl, by decide, gm1 (i := 176) rfl rfl⟩
theorem fl_X2_58 : ab_FL RX2 58 2 5 := ⟨_, _, _, rfl, by decide, gm1 (i := 177) rfl rfl⟩
theorem fl_X4_9 : ab_FL RX4 9 4 0 := ⟨_, _, _, rfl, by decide, gm1 (i := 203) rfl rfl⟩
theorem fl_X4_15 : ab_FL RX4 15 4 1 := ⟨_, _, _, rfl, by decide, gm1 (i := 204) rfl rfl⟩
theorem fl_X4_19 : ab_FL RX4 19 4 2 := ⟨_, _, _, rfl, by decide, gm1 (i := 205) rfl rfl⟩
theorem fl_X4_22 : ab_FL RX4 22 4 3 := ⟨_, _, _, rfl, by decide, gm1 (i := 206) rfl rfl⟩
theorem fl_X3_128 : ab_FL RX3 128 4 4 := ⟨_, _, _, rfl, by decide, gm1 (i := 207) rfl rfl⟩
theorem fl_X4_37 : ab_FL RX4 37 4 4 := ⟨_, _, _, rfl, by decide, gm1 (i := 208) rfl rfl⟩
theorem fl_X10_199 : ab_FL RX10 199 4 4 := ⟨_, _, _, rfl, by decide, gm1 (i := 209) rfl rfl⟩
theorem fl_X4_25 : ab_FL RX4 25 4 5 := ⟨_, _, _, rfl, by decide, gm1 (i := 210) rfl rfl⟩
theorem fl_X3_167 : ab_FL RX3 167 4 5 := ⟨_, _, _, rfl, by decide, gm1 (i := 211) rfl rfl⟩
theorem fl_X10_201 : ab_FL RX10 201 4 5 := ⟨_, _, _, rfl, by decide, gm1 (i := 212) rfl rfl⟩
theorem fl_X7_9 : ab_FL RX7 9 7 0 := ⟨_, _, _, rfl, by decide, gm1 (i := 232) rfl rfl⟩
theorem fl_X7_15 : ab_FL RX7 15 7 1 := ⟨_, _, _, rfl, by decide, gm1 (i := 233) rfl rfl⟩
theorem fl_X3_12 : ab_FL RX3 12 3 0 := ⟨_, _, _, rfl, by decide, gm1 (i := 239) rfl rfl⟩
theorem fl_X10_135 : ab_FL RX10 135 3 0 := ⟨_, _, _, rfl, by decide, gm2 (i := 0) rfl rfl⟩
theorem fl_X3_21 : ab_FL RX3 21 3 1 := ⟨_, _, _, rfl, by decide, gm2 (i := 1) rfl rfl⟩
theorem fl_X10_117 : ab_FL RX10 117 3 1 := ⟨_, _, _, rfl, by decide, gm2 (i := 2) rfl rfl⟩
theorem fl_X3_39 : ab_FL RX3 39 3 2 := ⟨_, _, _, rfl, by decide, gm2 (i := 3) rfl rfl⟩
theorem fl_X10_192 : ab_FL RX10 192 3 2 := ⟨_, _, _, rfl, by decide, gm2 (i := 4) rfl rfl⟩
theorem fl_X3_25 : ab_FL RX3 25 3 3 := ⟨_, _, _, rfl, by decide, gm2 (i := 5) rfl rfl⟩
theorem fl_X3_29 : ab_FL RX3 29 3 4 := ⟨_, _, _, rfl, by decide, gm2 (i := 6) rfl rfl⟩
theorem fl_X3_176 : ab_FL RX3 176 3 5 := ⟨_, _, _, rfl, by decide, gm2 (i := 7) rfl rfl⟩
theorem fl_X3_170 : ab_FL RX3 170 3 6 := ⟨_, _, _, rfl, by decide, gm2 (i := 8) rfl rfl⟩
theorem fl_X3_173 : ab_FL RX3 173 3 7 := ⟨_, _, _, rfl, by decide, gm2 (i := 9) rfl rfl⟩
theorem fl_X3_179 : ab_FL RX3 179 3 8 := ⟨_, _, _, rfl, by decide, gm2 (i := 10) rfl rfl⟩
theorem fl_X3_182 : ab_FL RX3 182 3 9 := ⟨_, _, _, rfl, by decide, gm2 (i := 11) rfl rfl⟩
theorem fl_X3_151 : ab_FL RX3 151 3 10 := ⟨_, _, _, rfl, by decide, gm2 (i := 12) rfl rfl⟩
theorem fl_X8_9 : ab_FL RX8 9 8 0 := ⟨_, _, _, rfl, by decide, gm2 (i := 42) rfl rfl⟩
theorem fl_X8_15 : ab_FL RX8 15 8 1 := ⟨_, _, _, rfl, by decide, gm2 (i := 43) rfl rfl⟩
theorem fl_X8_18 : ab_FL RX8 18 8 2 := ⟨_, _, _, rfl, by decide, gm2 (i := 44) rfl rfl⟩
theorem fl_X8_22 : ab_FL RX8 22 8 3 := ⟨_, _, _, rfl, by decide, gm2 (i := 45) rfl rfl⟩
theorem fl_X8_35 : ab_FL RX8 35 8 4 := ⟨_, _, _, rfl, by decide, gm2 (i := 46) rfl rfl⟩
theorem fl_X10_195 : ab_FL RX10 195 8 4 := ⟨_, _, _, rfl, by decide, gm2 (i := 47) rfl rfl⟩
theorem fl_X8_108 : ab_FL RX8 108 8 5 := ⟨_, _, _, rfl, by decide, gm2 (i := 48) rfl rfl⟩
theorem fl_X8_111 : ab_FL RX8 111 8 6 := ⟨_, _, _, rfl, by decide, gm2 (i := 49) rfl rfl⟩
theorem fl_X8_114 : ab_FL RX8 114 8 7 := ⟨_, _, _, rfl, by decide, gm2 (i := 50) rfl rfl⟩
theorem fl_X9_9 : ab_FL RX9 9 9 0 := ⟨_, _, _, rfl, by decide, gm2 (i := 74) rfl rfl⟩
theorem fl_X9_15 : ab_FL RX9 15 9 1 := ⟨_, _, _, rfl, by decide, gm2 (i := 75) rfl rfl⟩
theorem fl_X10_103 : ab_FL RX10 103 9 1 := ⟨_, _, _, rfl, by decide, gm2 (i := 76) rfl rfl⟩
theorem fl_X9_19 : ab_FL RX9 19 9 2 := ⟨_, _, _, rfl, by decide, gm2 (i := 77) rfl rfl⟩
theorem fl_X10_107 : ab_FL RX10 107 9 2 := ⟨_, _, _, rfl, by decide, gm2 (i := 78) rfl rfl⟩
theorem fl_X10_12 : ab_FL RX10 12 10 0 := ⟨_, _, _, rfl, by decide, gm2 (i := 86) rfl rfl⟩
theorem fl_X10_19 : ab_FL RX10 19 10 1 := ⟨_, _, _, rfl, by decide, gm2 (i := 87) rfl rfl⟩
theorem fl_X10_26 : ab_FL RX10 26 10 2 := ⟨_, _, _, rfl, by decide, gm2 (i := 88) rfl rfl⟩
theorem fl_X10_33 : ab_FL RX10 33 10 3 := ⟨_, _, _, rfl, by decide, gm2 (i := 89) rfl rfl⟩
theorem fl_X10_40 : ab_FL RX10 40 10 4 := ⟨_, _, _, rfl, by decide, gm2 (i := 90) rfl rfl⟩
theorem fl_X10_47 : ab_FL RX10 47 10 5 := ⟨_, _, _, rfl, by decide, gm2 (i := 91) rfl rfl⟩
theorem fl_X10_51 : ab_FL RX10 51 10 6 := ⟨_, _, _, rfl, by decide, gm2 (i := 92) rfl rfl⟩
theorem fl_X10_55 : ab_FL RX10 55 10 7 := ⟨_, _, _, rfl, by decide, gm2 (i := 93) rfl rfl⟩
theorem fl_X10_58 : ab_FL RX10 58 10 8 := ⟨_, _, _, rfl, by decide, gm2 (i := 94) rfl rfl⟩
theorem fl_X11_1 : ab_FL RX11 1 11 0 := ⟨_, _, _, rfl, by decide, gm4 (i := 94) rfl rfl⟩
theorem fl_X11_41 : ab_FL RX11 41 11 1 := ⟨_, _, _, rfl, by decide, gm4 (i := 95) rfl rfl⟩
theorem fl_X11_38 : ab_FL RX11 38 11 2 := ⟨_, _, _, rfl, by decide, gm4 (i := 96) rfl rfl⟩
theorem fl_X11_7 : ab_FL RX11 7 11 3 := ⟨_, _, _, rfl, by decide, gm4 (i := 97) rfl rfl⟩
theorem fl_X11_51 : ab_FL RX11 51 11 4 := ⟨_, _, _, rfl, by decide, gm4 (i := 98) rfl rfl⟩
theorem fl_X11_54 : ab_FL RX11 54 11 5 := ⟨_, _, _, rfl, by decide, gm4 (i := 99) rfl rfl⟩
theorem fl_X11_26 : ab_FL RX11 26 11 6 := ⟨_, _, _, rfl, by decide, gm4 (i := 100) rfl rfl⟩
theorem fl_X11_44 : ab_FL RX11 44 11 7 := ⟨_, _, _, rfl, by decide, gm4 (i := 101) rfl rfl⟩
theorem fl_X11_61 : ab_FL RX11 61 11 8 := ⟨_, _, _, rfl, by decide, gm4 (i := 102) rfl rfl⟩
theorem fl_X11_19 : ab_FL RX11 19 11 9 := ⟨_, _, _, rfl, by decide, gm4 (i := 103) rfl rfl⟩
theorem fl_X11_73 : ab_FL RX11 73 11 10 := ⟨_, _, _, rfl, by decide, gm4 (i := 104) rfl rfl⟩
theorem fl_X11_77 : ab_FL RX11 77 11 11 := ⟨_, _, _, rfl, by decide, gm4 (i := 105) rfl rfl⟩
theorem fl_X11_80 : ab_FL RX11 80 11 12 := ⟨_, _, _, rfl, by decide, gm4 (i := 106) rfl rfl⟩
theorem fl_X11_83 : ab_FL RX11 83 11 13 := ⟨_, _, _, rfl, by decide, gm4 (i := 107) rfl rfl⟩
theorem fl_X11_86 : ab_FL RX11 86 11 14 := ⟨_, _, _, rfl, by decide, gm4 (i := 108) rfl rfl⟩
theorem fl_X11_89 : ab_FL RX11 89 11 15 := ⟨_, _, _, rfl, by decide, gm4 (i := 109) rfl rfl⟩
theorem fl_X11_92 : ab_FL RX11 92 11 16 := ⟨_, _, _, rfl, by decide, gm4 (i := 110) rfl rfl⟩
theorem fl_X11_95 : ab_FL RX11 95 11 17 := ⟨_, _, _, rfl, by decide, gm4 (i := 111) rfl rfl⟩
theorem fl_X11_98 : ab_FL RX11 98 11 18 := ⟨_, _, _, rfl, by decide, gm4 (i := 112) rfl rfl⟩
theorem fl_X11_101 : ab_FL RX11 101 11 19 := ⟨_, _, _, rfl, by decide, gm4 (i := 113) rfl rfl⟩
theorem fl_X11_104 : ab_FL RX11 104 11 20 := ⟨_, _, _, rfl, by decide, gm4 (i := 114) rfl rfl⟩
theorem fl_X11_107 : ab_FL RX11 107 11 21 := ⟨_, _, _, rfl, by decide, gm4 (i := 115) rfl rfl⟩
theorem fl_X11_110 : ab_FL RX11 110 11 22 := ⟨_, _, _, rfl, by decide, gm4 (i := 116) rfl rfl⟩
theorem fl_X11_15 : ab_FL RX11 15 11 23 := ⟨_, _, _, rfl, by decide, gm4 (i := 117) rfl rfl⟩
theorem fl_X11_119 : ab_FL RX11 119 11 24 := ⟨_, _, _, rfl, by decide, gm4 (i := 118) rfl rfl⟩
theorem fl_X11_35 : ab_FL RX11 35 11 25 := ⟨_, _, _, rfl, by decide, gm4 (i := 119) rfl rfl⟩
theorem fl_X11_125 : ab_FL RX11 125 11 26 := ⟨_, _, _, rfl, by decide, gm4 (i := 120) rfl rfl⟩
theorem fl_X11_122 : ab_FL RX11 122 11 27 := ⟨_, _, _, rfl, by decide, gm4 (i := 121) rfl rfl⟩
theorem fl_X11_163 : ab_FL RX11 163 11 28 := ⟨_, _, _, rfl, by decide, gm4 (i := 122) rfl rfl⟩
theorem fl_X11_113 : ab_FL RX11 113 11 29 := ⟨_, _, _, rfl, by decide, gm4 (i := 123) rfl rfl⟩
theorem fl_X11_131 : ab_FL RX11 131 11 30 := ⟨_, _, _, rfl, by decide, gm4 (i := 124) rfl rfl⟩
theorem fl_X11_134 : ab_FL RX11 134 11 31 := ⟨_, _, _, rfl, by decide, gm4 (i := 125) rfl rfl⟩
theorem fl_X11_128 : ab_FL RX11 128 11 32 := ⟨_, _, _, rfl, by decide, gm4 (i := 126) rfl rfl⟩
theorem fl_X11_146 : ab_FL RX11 146 11 33 := ⟨_, _, _, rfl, by decide, gm4 (i := 127) rfl rfl⟩
theorem fl_X11_32 : ab_FL RX11 32 11 34 := ⟨_, _, _, rfl, by decide, gm4 (i := 128) rfl rfl⟩
theorem fl_X11_166 : ab_FL RX11 166 11 35 := ⟨_, _, _, rfl, by decide, gm4 (i := 129) rfl rfl⟩
theorem fl_X11_219 : ab_FL RX11 219 11 36 := ⟨_, _, _, rfl, by decide, gm4 (i := 130) rfl rfl⟩
theorem fl_X11_213 : ab_FL RX11 213 11 37 := ⟨_, _, _, rfl, by decide, gm4 (i := 131) rfl rfl⟩
theorem fl_X11_216 : ab_FL RX11 216 11 38 := ⟨_, _, _, rfl, by decide, gm4 (i := 132) rfl rfl⟩
theorem fl_X11_222 : ab_FL RX11 222 11 39 := ⟨_, _, _, rfl, by decide, gm4 (i := 133) rfl rfl⟩
theorem fl_X11_186 : ab_FL RX11 186 11 40 := ⟨_, _, _, rfl, by decide, gm4 (i := 134) rfl rfl⟩
theorem fl_X11_189 : ab_FL RX11 189 11 41 := ⟨_, _, _, rfl, by decide, gm4 (i := 135) rfl rfl⟩
theorem fl_X11_116 : ab_FL RX11 116 11 42 := ⟨_, _, _, rfl, by decide, gm4 (i := 136) rfl rfl⟩
theorem fl_X11_225 : ab_FL RX11 225 11 43 := ⟨_, _, _, rfl, by decide, gm4 (i := 137) rfl rfl⟩
theorem fl_X11_248 : ab_FL RX11 248 11 44 := ⟨_, _, _, rfl, by decide, gm4 (i := 138) rfl rfl⟩
theorem fl_X11_251 : ab_FL RX11 251 11 45 := ⟨_, _, _, rfl, by decide, gm4 (i := 139) rfl rfl⟩
theorem fl_X11_254 : ab_FL RX11 254 11 46 := ⟨_, _, _, rfl, by decide, gm4 (i := 140) rfl rfl⟩
theorem fl_X11_263 : ab_FL RX11 263 11 47 := ⟨_, _, _, rfl, by decide, gm4 (i := 141) rfl rfl⟩
theorem fl_X11_260 : ab_FL RX11 260 11 48 := ⟨_, _, _, rfl, by decide, gm4 (i := 142) rfl rfl⟩
theorem ly_X0_0 : u_lay RX0 TX0 0 ∈ gw := gm1 (i := 104) rfl rfl
theorem ly_X0_1 : u_lay RX0 TX0 1 ∈ gw := gm1 (i := 106) rfl rfl
theorem us_X0 : ∀ w ∈ u_ws RX0 TX0 2, w ∈ gw := by
  intro w h
  obtain ⟨k, hk, rfl⟩ := List.mem_map.mp h
  have hk : k < 2 := List.mem_range.mp hk
  match k, hk with
  | 0, _ => exact ly_X0_0
  | 1, _ => exact ly_X0_1
  | k + 2, hk => exact absurd hk (by omega)
theorem ly_X1_0 : u_lay RX1 TX1 0 ∈ gw := gm1 (i := 129) rfl rfl
theorem ly_X1_1 : u_lay RX1 TX1 1 ∈ gw := gm1 (i := 131) rfl rfl
theorem ly_X1_2 : u_lay RX1 TX1 2 ∈ gw := gm1 (i := 133) rfl rfl
theorem ly_X1_3 : u_lay RX1 TX1 3 ∈ gw := gm1 (i := 135) rfl rfl
theorem ly_X1_4 : u_lay RX1 TX1 4 ∈ gw := gm1 (i := 137) rfl rfl
theorem ly_X1_5 : u_lay RX1 TX1 5 ∈ gw := gm1 (i := 139) rfl rfl
theorem ly_X1_6 : u_lay RX1 TX1 6 ∈ gw := gm1 (i := 141) rfl rfl
theorem us_X1 : ∀ w ∈ u_ws RX1 TX1 7, w ∈ gw := by
  intro w h
  obtain ⟨k, hk, rfl⟩ := List.mem_map.mp h
  have hk : k < 7 := List.mem_range.mp hk
  match k, hk with
  | 0, _ => exact ly_X1_0
  | 1, _ => exact ly_X1_1
  | 2, _ => exact ly_X1_2
  | 3, _ => exact ly_X1_3
  | 4, _ => exact ly_X1_4
  | 5, _ => exact ly_X1_5
  | 6, _ => exact ly_X1_6
  | k + 7, hk => exact absurd hk (by omega)
theorem ly_X2_0 : u_lay RX2 TX2 0 ∈ gw := gm1 (i := 178) rfl rfl
theorem ly_X2_1 : u_lay RX2 TX2 1 ∈ gw := gm1 (i := 180) rfl rfl
theorem ly_X2_2 : u_lay RX2 TX2 2 ∈ gw := gm1 (i := 182) rfl rfl
theorem ly_X2_3 : u_lay RX2 TX2 3 ∈ gw := gm1 (i := 184) rfl rfl
theorem ly_X2_4 : u_lay RX2 TX2 4 ∈ gw := gm1 (i := 186) rfl rfl
theorem ly_X2_5 : u_lay RX2 TX2 5 ∈ gw := gm1 (i := 188) rfl rfl
theorem us_X2 : ∀ w ∈ u_ws RX2 TX2 6, w ∈ gw := by
  intro w h
  obtain ⟨k, hk, rfl⟩ := List.mem_map.mp h
  have hk : k < 6 := List.mem_range.mp hk
  match k, hk with
  | 0, _ => exact ly_X2_0
  | 1, _ => exact ly_X2_1
  | 2, _ => exact ly_X2_2
  | 3, _ => exact ly_X2_3
  | 4, _ => exact ly_X2_4
  | 5, _ => exact ly_X2_5
  | k + 6, hk => exact absurd hk (by omega)
theorem ly_X3_0 : u_lay RX3 TX3 0 ∈ gw := gm2 (i := 13) rfl rfl
theorem ly_X3_1 : u_lay RX3 TX3 1 ∈ gw := gm2 (i := 15) rfl rfl
theorem ly_X3_2 : u_lay RX3 TX3 2 ∈ gw := gm2 (i := 17) rfl rfl
theorem ly_X3_3 : u_lay RX3 TX3 3 ∈ gw := gm2 (i := 19) rfl rfl
theorem ly_X3_4 : u_lay RX3 TX3 4 ∈ gw := gm2 (i := 21) rfl rfl
theorem ly_X3_5 : u_lay RX3 TX3 5 ∈ gw := gm2 (i := 23) rfl rfl
theorem ly_X3_6 : u_lay RX3 TX3 6 ∈ gw := gm2 (i := 25) rfl rfl
theorem ly_X3_7 : u_lay RX3 TX3 7 ∈ gw := gm2 (i := 27) rfl rfl
theorem ly_X3_8 : u_lay RX3 TX3 8 ∈ gw := gm2 (i := 29) rfl rfl
theorem ly_X3_9 : u_lay RX3 TX3 9 ∈ gw := gm2 (i := 31) rfl rfl
theorem ly_X3_10 : u_lay RX3 TX3 10 ∈ gw := gm2 (i := 33) rfl rfl
theorem us_X3 : ∀ w ∈ u_ws RX3 TX3 11, w ∈ gw := by
  intro w h
  obtain ⟨k, hk, rfl⟩ := List.mem_map.mp h
  have hk : k < 11 := List.mem_range.mp hk
  match k, hk with
  | 0, _ => exact ly_X3_0
  | 1, _ => exact ly_X3_1
  | 2, _ => exact ly_X3_2
  | 3, _ => exact ly_X3_3
  | 4, _ => exact ly_X3_4
  | 5, _ => exact ly_X3_5
  | 6, _ => exact ly_X3_6
  | 7, _ => exact ly_X3_7
  | 8, _ => exact ly_X3_8
  | 9, _ => exact ly_X3_9
  | 10, _ => exact ly_X3_10
  | k + 11, hk => exact absurd hk (by omega)
theorem ly_X4_0 : u_lay RX4 TX4 0 ∈ gw := gm1 (i := 213) rfl rfl
theorem ly_X4_1 : u_lay RX4 TX4 1 ∈ gw := gm1 (i := 215) rfl rfl
theorem ly_X4_2 : u_lay RX4 TX4 2 ∈ gw := gm1 (i := 217) rfl rfl
theorem ly_X4_3 : u_lay RX4 TX4 3 ∈ gw := gm1 (i := 219) rfl rfl
theorem ly_X4_4 : u_lay RX4 TX4 4 ∈ gw := gm1 (i := 221) rfl rfl
theorem ly_X4_5 : u_lay RX4 TX4 5 ∈ gw := gm1 (i := 223) rfl rfl
theorem us_X4 : ∀ w ∈ u_ws RX4 TX4 6, w ∈ gw := by
  intro w h
  obtain ⟨k, hk, rfl⟩ := List.mem_map.mp h
  have hk : k < 6 := List.mem_range.mp hk
  match k, hk with
  | 0, _ => exact ly_X4_0
  | 1, _ => exact ly_X4_1
  | 2, _ => exact ly_X4_2
  | 3, _ => exact ly_X4_3
  | 4, _ => exact ly_X4_4
  | 5, _ => exact ly_X4_5
  | k + 6, hk => exact absurd hk (by omega)
theorem ly_X5_0 : u_lay RX5 TX5 0 ∈ gw := gm1 (i := 155) rfl rfl
theorem ly_X5_1 : u_lay RX5 TX5 1 ∈ gw := gm1 (i := 157) rfl rfl
theorem ly_X5_2 : u_lay RX5 TX5 2 ∈ gw := gm1 (i := 159) rfl rfl
theorem us_X5 : ∀ w ∈ u_ws RX5 TX5 3, w ∈ gw := by
  intro w h
  obtain ⟨k, hk, rfl⟩ := List.mem_map.mp h
  have hk : k < 3 := List.mem_range.mp hk
  match k, hk with
  | 0, _ => exact ly_X5_0
  | 1, _ => exact ly_X5_1
  | 2, _ => exact ly_X5_2
  | k + 3, hk => exact absurd hk (by omega)
theorem ly_X6_0 : u_lay RX6 TX6 0 ∈ gw := gm1 (i := 74) rfl rfl
theorem ly_X6_1 : u_lay RX6 TX6 1 ∈ gw := gm1 (i := 76) rfl rfl
theorem ly_X6_2 : u_lay RX6 TX6 2 ∈ gw := gm1 (i := 78) rfl rfl
theorem ly_X6_3 : u_lay RX6 TX6 3 ∈ gw := gm1 (i := 80) rfl rfl
theorem ly_X6_4 : u_lay RX6 TX6 4 ∈ gw := gm1 (i := 82) rfl rfl
theorem ly_X6_5 : u_lay RX6 TX6 5 ∈ gw := gm1 (i := 84) rfl rfl
theorem ly_X6_6 : u_lay RX6 TX6 6 ∈ gw := gm1 (i := 86) rfl rfl
theorem ly_X6_7 : u_lay RX6 TX6 7 ∈ gw := gm1 (i := 88) rfl rfl
theorem us_X6 : ∀ w ∈ u_ws RX6 TX6 8, w ∈ gw := by
  intro w h
  obtain ⟨k, hk, rfl⟩ := List.mem_map.mp h
  have hk : k < 8 := List.mem_range.mp hk
  match k, hk with
  | 0, _ => exact ly_X6_0
  | 1, _ => exact ly_X6_1
  | 2, _ => exact ly_X6_2
  | 3, _ => exact ly_X6_3
  | 4, _ => exact ly_X6_4
  | 5, _ => exact ly_X6_5
  | 6, _ => exact ly_X6_6
  | 7, _ => exact ly_X6_7
  | k + 8, hk => exact absurd hk (by omega)
theorem ly_X7_0 : u_lay RX7 TX7 0 ∈ gw := gm1 (i := 234) rfl rfl
theorem ly_X7_1 : u_lay RX7 TX7 1 ∈ gw := gm1 (i := 236) rfl rfl
theorem us_X7 : ∀ w ∈ u_ws RX7 TX7 2, w ∈ gw := by
  intro w h
  obtain ⟨k, hk, rfl⟩ := List.mem_map.mp h
  have hk : k < 2 := List.mem_range.mp hk
  match k, hk with
  | 0, _ => exact ly_X7_0
  | 1, _ => exact ly_X7_1
  | k + 2, hk => exact absurd hk (by omega)
theorem ly_X8_0 : u_lay RX8 TX8 0 ∈ gw := gm2 (i := 51) rfl rfl
theorem ly_X8_1 : u_lay RX8 TX8 1 ∈ gw := gm2 (i := 53) rfl rfl
theorem ly_X8_2 : u_lay RX8 TX8 2 ∈ gw := gm2 (i := 55) rfl rfl
theorem ly_X8_3 : u_lay RX8 TX8 3 ∈ gw := gm2 (i := 57) rfl rfl
theorem ly_X8_4 : u_lay RX8 TX8 4 ∈ gw := gm2 (i := 59) rfl rfl
theorem ly_X8_5 : u_lay RX8 TX8 5 ∈ gw := gm2 (i := 61) rfl rfl
theorem ly_X8_6 : u_lay RX8 TX8 6 ∈ gw := gm2 (i := 63) rfl rfl
theorem ly_X8_7 : u_lay RX8 TX8 7 ∈ gw := gm2 (i := 65) rfl rfl
theorem us_X8 : ∀ w ∈ u_ws RX8 TX8 8, w ∈ gw := by
  intro w h
  obtain ⟨k, hk, rfl⟩ := List.mem_map.mp h
  have hk : k < 8 := List.mem_range.mp hk
  match k, hk with
  | 0, _ => exact ly_X8_0
  | 1, _ => exact ly_X8_1
  | 2, _ => exact ly_X8_2
  | 3, _ => exact ly_X8_3
  | 4, _ => exact ly_X8_4
  | 5, _ => exact ly_X8_5
  | 6, _ => exact ly_X8_6
  | 7, _ => exact ly_X8_7
  | k + 8, hk => exact absurd hk (by omega)
theorem ly_X9_0 : u_lay RX9 TX9 0 ∈ gw := gm2 (i := 79) rfl rfl
theorem ly_X9_1 : u_lay RX9 TX9 1 ∈ gw := gm2 (i := 81) rfl rfl
theorem ly_X9_2 : u_lay RX9 TX9 2 ∈ gw := gm2 (i := 83) rfl rfl
theorem us_X9 : ∀ w ∈ u_ws RX9 TX9 3, w ∈ gw := by
  intro w h
  obtain ⟨k, hk, rfl⟩ := List.mem_map.mp h
  have hk : k < 3 := List.mem_range.mp hk
  match k, hk with
  | 0, _ => exact ly_X9_0
  | 1, _ => exact ly_X9_1
  | 2, _ => exact ly_X9_2
  | k + 3, hk => exact absurd hk (by omega)
theorem ly_X10_0 : u_lay RX10 TX10 0 ∈ gw := gm2 (i := 95) rfl rfl
theorem ly_X10_1 : u_lay RX10 TX10 1 ∈ gw := gm2 (i := 97) rfl rfl
theorem ly_X10_2 : u_lay RX10 TX10 2 ∈ gw := gm2 (i := 99) rfl rfl
theorem ly_X10_3 : u_lay RX10 TX10 3 ∈ gw := gm2 (i := 101) rfl rfl
theorem ly_X10_4 : u_lay RX10 TX10 4 ∈ gw := gm2 (i := 103) rfl rfl
theorem ly_X10_5 : u_lay RX10 TX10 5 ∈ gw := gm2 (i := 105) rfl rfl
theorem ly_X10_6 : u_lay RX10 TX10 6 ∈ gw := gm2 (i := 107) rfl rfl
theorem ly_X10_7 : u_lay RX10 TX10 7 ∈ gw := gm2 (i := 109) rfl rfl
theorem ly_X10_8 : u_lay RX10 TX10 8 ∈ gw := gm2 (i := 111) rfl rfl
theorem us_X10 : ∀ w ∈ u_ws RX10 TX10 9, w ∈ gw := by
  intro w h
  obtain ⟨k, hk, rfl⟩ := List.mem_map.mp h
  have hk : k < 9 := List.mem_range.mp hk
  match k, hk with
  | 0, _ => exact ly_X10_0
  | 1, _ => exact ly_X10_1
  | 2, _ => exact ly_X10_2
  | 3, _ => exact ly_X10_3
  | 4, _ => exact ly_X10_4
  | 5, _ => exact ly_X10_5
  | 6, _ => exact ly_X10_6
  | 7, _ => exact ly_X10_7
  | 8, _ => exact ly_X10_8
  | k + 9, hk => exact absurd hk (by omega)
theorem ly_X11_0 : u_lay RX11 TX11 0 ∈ gw := gm4 (i := 143) rfl rfl
theorem ly_X11_1 : u_lay RX11 TX11 1 ∈ gw := gm4 (i := 145) rfl rfl
theorem ly_X11_2 : u_lay RX11 TX11 2 ∈ gw := gm4 (i := 147) rfl rfl
theorem ly_X11_3 : u_lay RX11 TX11 3 ∈ gw := gm4 (i := 149) rfl rfl
theorem ly_X11_4 : u_lay RX11 TX11 4 ∈ gw := gm4 (i := 151) rfl rfl
theorem ly_X11_5 : u_lay RX11 TX11 5 ∈ gw := gm4 (i := 153) rfl rfl
theorem ly_X11_6 : u_lay RX11 TX11 6 ∈ gw := gm4 (i := 155) rfl rfl
theorem ly_X11_7 : u_lay RX11 TX11 7 ∈ gw := gm4 (i := 157) rfl rfl
theorem ly_X11_8 : u_lay RX11 TX11 8 ∈ gw := gm4 (i := 159) rfl rfl
theorem ly_X11_9 : u_lay RX11 TX11 9 ∈ gw := gm4 (i := 161) rfl rfl
theorem ly_X11_10 : u_lay RX11 TX11 10 ∈ gw := gm4 (i := 163) rfl rfl
theorem ly_X11_11 : u_lay RX11 TX11 11 ∈ gw := gm4 (i := 165) rfl rfl
theorem ly_X11_12 : u_lay RX11 TX11 12 ∈ gw := gm4 (i := 167) rfl rfl
theorem ly_X11_13 : u_lay RX11 TX11 13 ∈ gw := gm4 (i := 169) rfl rfl
theorem ly_X11_14 : u_lay RX11 TX11 14 ∈ gw := gm4 (i := 171) rfl rfl
theorem ly_X11_15 : u_lay RX11 TX11 15 ∈ gw := gm4 (i := 173) rfl rfl
theorem ly_X11_16 : u_lay RX11 TX11 16 ∈ gw := gm4 (i := 175) rfl rfl
theorem ly_X11_17 : u_lay RX11 TX11 17 ∈ gw := gm4 (i := 177) rfl rfl
theorem ly_X11_18 : u_lay RX11 TX11 18 ∈ gw := gm4 (i := 179) rfl rfl
theorem ly_X11_19 : u_lay RX11 TX11 19 ∈ gw := gm4 (i := 181) rfl rfl
theorem ly_X11_20 : u_lay RX11 TX11 20 ∈ gw := gm4 (i := 183) rfl rfl
theorem ly_X11_21 : u_lay RX11 TX11 21 ∈ gw := gm4 (i := 185) rfl rfl
theorem ly_X11_22 : u_lay RX11 TX11 22 ∈ gw := gm4 (i := 187) rfl rfl
theorem ly_X11_23 : u_lay RX11 TX11 23 ∈ gw := gm4 (i := 189) rfl rfl
theorem ly_X11_24 : u_lay RX11 TX11 24 ∈ gw := gm4 (i := 191) rfl rfl
theorem ly_X11_25 : u_lay RX11 TX11 25 ∈ gw := gm4 (i := 193) rfl rfl
theorem ly_X11_26 : u_lay RX11 TX11 26 ∈ gw := gm4 (i := 195) rfl rfl
theorem ly_X11_27 : u_lay RX11 TX11 27 ∈ gw := gm4 (i := 197) rfl rfl
theorem ly_X11_28 : u_lay RX11 TX11 28 ∈ gw := gm4 (i := 199) rfl rfl
theorem ly_X11_29 : u_lay RX11 TX11 29 ∈ gw := gm4 (i := 201) rfl rfl
theorem ly_X11_30 : u_lay RX11 TX11 30 ∈ gw := gm4 (i := 203) rfl rfl
theorem ly_X11_31 : u_lay RX11 TX11 31 ∈ gw := gm4 (i := 205) rfl rfl
theorem ly_X11_32 : u_lay RX11 TX11 32 ∈ gw := gm4 (i := 207) rfl rfl
theorem ly_X11_33 : u_lay RX11 TX11 33 ∈ gw := gm4 (i := 209) rfl rfl
theorem ly_X11_34 : u_lay RX11 TX11 34 ∈ gw := gm4 (i := 211) rfl rfl
theorem ly_X11_35 : u_lay RX11 TX11 35 ∈ gw := gm4 (i := 213) rfl rfl
theorem ly_X11_36 : u_lay RX11 TX11 36 ∈ gw := gm4 (i := 215) rfl rfl
theorem ly_X11_37 : u_lay RX11 TX11 37 ∈ gw := gm4 (i := 217) rfl rfl
theorem ly_X11_38 : u_lay RX11 TX11 38 ∈ gw := gm4 (i := 219) rfl rfl
theorem ly_X11_39 : u_lay RX11 TX11 39 ∈ gw := gm4 (i := 221) rfl rfl
theorem ly_X11_40 : u_lay RX11 TX11 40 ∈ gw := gm4 (i := 223) rfl rfl
theorem ly_X11_41 : u_lay RX11 TX11 41 ∈ gw := gm4 (i := 225) rfl rfl
theorem ly_X11_42 : u_lay RX11 TX11 42 ∈ gw := gm4 (i := 227) rfl rfl
theorem ly_X11_43 : u_lay RX11 TX11 43 ∈ gw := gm4 (i := 229) rfl rfl
theorem ly_X11_44 : u_lay RX11 TX11 44 ∈ gw := gm4 (i := 231) rfl rfl
theorem ly_X11_45 : u_lay RX11 TX11 45 ∈ gw := gm4 (i := 233) rfl rfl
theorem ly_X11_46 : u_lay RX11 TX11 46 ∈ gw := gm4 (i := 235) rfl rfl
theorem ly_X11_47 : u_lay RX11 TX11 47 ∈ gw := gm4 (i := 237) rfl rfl
theorem ly_X11_48 : u_lay RX11 TX11 48 ∈ gw := gm4 (i := 239) rfl rfl
theorem us_X11 : ∀ w ∈ u_ws RX11 TX11 49, w ∈ gw := by
  intro w h
  obtain ⟨k, hk, rfl⟩ := List.mem_map.mp h
  have hk : k < 49 := List.mem_range.mp hk
  match k, hk with
  | 0, _ => exact ly_X11_0
  | 1, _ => exact ly_X11_1
  | 2, _ => exact ly_X11_2
  | 3, _ => exact ly_X11_3
  | 4, _ => exact ly_X11_4
  | 5, _ => exact ly_X11_5
  | 6, _ => exact ly_X11_6
  | 7, _ => exact ly_X11_7
  | 8, _ => exact ly_X11_8
  | 9, _ => exact ly_X11_9
  | 10, _ => exact ly_X11_10
  | 11, _ => exact ly_X11_11
  | 12, _ => exact ly_X11_12
  | 13, _ => exact ly_X11_13
  | 14, _ => exact ly_X11_14
  | 15, _ => exact ly_X11_15
  | 16, _ => exact ly_X11_16
  | 17, _ => exact ly_X11_17
  | 18, _ => exact ly_X11_18
  | 19, _ => exact ly_X11_19
  | 20, _ => exact ly_X11_20
  | 21, _ => exact ly_X11_21
  | 22, _ => exact ly_X11_22
  | 23, _ => exact ly_X11_23
  | 24, _ => exact ly_X11_24
  | 25, _ => exact ly_X11_25
  | 26, _ => exact ly_X11_26
  | 27, _ => exact ly_X11_27
  | 28, _ => exact ly_X11_28
  | 29, _ => exact ly_X11_29
  | 30, _ => exact ly_X11_30
  | 31, _ => exact ly_X11_31
  | 32, _ => exact ly_X11_32
  | 33, _ => exact ly_X11_33
  | 34, _ => exact ly_X11_34
  | 35, _ => exact ly_X11_35
  | 36, _ => exact ly_X11_36
  | 37, _ => exact ly_X11_37
  | 38, _ => exact ly_X11_38
  | 39, _ => exact ly_X11_39
  | 40, _ => exact ly_X11_40
  | 41, _ => exact ly_X11_41
  | 42, _ => exact ly_X11_42
  | 43, _ => exact ly_X11_43
  | 44, _ => exact ly_X11_44
  | 45, _ => exact ly_X11_45
  | 46, _ => exact ly_X11_46
  | 47, _ => exact ly_X11_47
  | 48, _ => exact ly_X11_48
  | k + 49, hk => exact absurd hk (by omega)
def ab_ty (ci : Nat) : Nat → FieldType := match ci with
  | 0 => tyX0
  | 1 => tyX1
  | 2 => tyX2
  | 3 => tyX3
  | 4 => tyX4
  | 5 => tyX5
  | 6 => tyX6
  | 7 => tyX7
  | 8 => tyX8
  | 9 => tyX9
  | 10 => tyX10
  | 11 => tyX11
  | _ => fun _ => .int
theorem ab_cls {ci : Nat} {C : String} {T : u_T} {N : Nat} (h : vwCl[ci]? = some (C, T, N)) : (∀ w ∈ u_ws C T N, w ∈ gw) ∧ (∀ k, k < N → parseFieldDescriptor (T k).2.2.1 = some (ab_ty ci k)) ∧ (∀ a, a < N → ∀ b, b < N → a ≠ b → (T a).2.1 ≠ (T b).2.1) ∧ Cond.instantiable C N ∈ gw ∧ Cond.initialized C ∈ gw := by
  match ci, h with
  | 0, h => cases h; exact ⟨us_X0, tyX0_ok, nmX0, is_X0, in_X0⟩
  | 1, h => cases h; exact ⟨us_X1, tyX1_ok, nmX1, is_X1, in_X1⟩
  | 2, h => cases h; exact ⟨us_X2, tyX2_ok, nmX2, is_X2, in_X2⟩
  | 3, h => cases h; exact ⟨us_X3, tyX3_ok, nmX3, is_X3, in_X3⟩
  | 4, h => cases h; exact ⟨us_X4, tyX4_ok, nmX4, is_X4, in_X4⟩
  | 5, h => cases h; exact ⟨us_X5, tyX5_ok, nmX5, is_X5, in_X5⟩
  | 6, h => cases h; exact ⟨us_X6, tyX6_ok, nmX6, is_X6, in_X6⟩
  | 7, h => cases h; exact ⟨us_X7, tyX7_ok, nmX7, is_X7, in_X7⟩
  | 8, h => cases h; exact ⟨us_X8, tyX8_ok, nmX8, is_X8, in_X8⟩
  | 9, h => cases h; exact ⟨us_X9, tyX9_ok, nmX9, is_X9, in_X9⟩
  | 10, h => cases h; exact ⟨us_X10, tyX10_ok, nmX10, is_X10, in_X10⟩
  | 11, h => cases h; exact ⟨us_X11, tyX11_ok, nmX11, is_X11, in_X11⟩
  | k + 12, h => simp [vwCl] at h
def ab_nest : List Cond := [Cond.methodLinkNest RX1 27 yX6_init "ServerHouse", Cond.methodLinkNest RX0 17 yX6_init "ServerHouse", Cond.methodLinkNest RX10 18 yX5_init "ServerHouse", Cond.methodLinkNest RX10 25 yX2_init "ServerHouse", Cond.methodLinkNest RX10 32 yX3_init "ServerHouse", Cond.methodLinkNest RX3 11 yX4_init "ServerHouse", Cond.methodLinkNest RX10 46 yX9_init "ServerHouse", Cond.methodLinkNest RX9 22 yX10_isUser "ServerHouse", Cond.methodLinkNest RX1 37 yX10_isPart "ServerHouse", Cond.methodLinkNest RX7 18 yX10_isUser "ServerHouse", Cond.methodLinkNest RX8 55 yX10_isPart "ServerHouse", Cond.methodLinkNest RX8 25 yX10_isUser "ServerHouse"]
def ab_nestf : List Cond := [Cond.fieldLinkNest RX1 59 "ServerHouse" "ALLOWED" "[I" "ServerHouse"]
abbrev ab_M : Type := MethodName × ByteArray × Nat × Option FieldType
abbrev mX10_init : ab_M := (yX10_init, cX10_init, 1, (none : Option FieldType))
abbrev mX1_init : ab_M := (yX1_init, cX1_init, 2, (none : Option FieldType))
abbrev mX6_init : ab_M := (yX6_init, cX6_init, 1, (none : Option FieldType))
abbrev mX0_init : ab_M := (yX0_init, cX0_init, 2, (none : Option FieldType))
abbrev mX5_init : ab_M := (yX5_init, cX5_init, 1, (none : Option FieldType))
abbrev mX2_init : ab_M := (yX2_init, cX2_init, 1, (none : Option FieldType))
abbrev mX3_init : ab_M := (yX3_init, cX3_init, 1, (none : Option FieldType))
abbrev mX4_init : ab_M := (yX4_init, cX4_init, 1, (none : Option FieldType))
abbrev mX7_init : ab_M := (yX7_init, cX7_init, 2, (none : Option FieldType))
abbrev mX8_init : ab_M := (yX8_init, cX8_init, 2, (none : Option FieldType))
abbrev mX9_init : ab_M := (yX9_init, cX9_init, 1, (none : Option FieldType))
abbrev mX10_call : ab_M := (yX10_call, cX10_call, 5, (some FieldType.int))
abbrev mX10_isUser : ab_M := (yX10_isUser, cX10_isUser, 1, (some FieldType.boolean))
abbrev mX9_hasCall : ab_M := (yX9_hasCall, cX9_hasCall, 2, (some FieldType.boolean))
abbrev mX1_postLoose : ab_M := (yX1_postLoose, cX1_postLoose, 6, (some FieldType.int))
abbrev mX6_write : ab_M := (yX6_write, cX6_write, 5, (none : Option FieldType))
abbrev mX1_post : ab_M := (yX1_post, cX1_post, 4, (some FieldType.int))
abbrev mX10_isPart : ab_M := (yX10_isPart, cX10_isPart, 1, (some FieldType.boolean))
abbrev mX0_grow : ab_M := (yX0_grow, cX0_grow, 1, (some (FieldType.object "ServerHouse$Message")))
abbrev mX6_copy : ab_M := (yX6_copy, cX6_copy, 3, (none : Option FieldType))
abbrev mX9_setCall : ab_M := (yX9_setCall, cX9_setCall, 3, (none : Option FieldType))
abbrev mX10_steps : ab_M := (yX10_steps, cX10_steps, 3, (some FieldType.int))
abbrev mX10_giveTurn : ab_M := (yX10_giveTurn, cX10_giveTurn, 2, (none : Option FieldType))
abbrev mX1_sendHeld : ab_M := (yX1_sendHeld, cX1_sendHeld, 4, (some FieldType.boolean))
abbrev mX5_takeTurn : ab_M := (yX5_takeTurn, cX5_takeTurn, 3, (some FieldType.boolean))
abbrev mX5_watchDead : ab_M := (yX5_watchDead, cX5_watchDead, 2, (none : Option FieldType))
abbrev mX1_startDriver : ab_M := (yX1_startDriver, cX1_startDriver, 1, (none : Option FieldType))
abbrev mX1_send : ab_M := (yX1_send, cX1_send, 7, (none : Option FieldType))
abbrev mX1_draft : ab_M := (yX1_draft, cX1_draft, 5, (some (FieldType.object "ServerHouse$Message")))
abbrev mX0_take : ab_M := (yX0_take, cX0_take, 4, (some (FieldType.object "ServerHouse$Message")))
abbrev mX5_check : ab_M := (yX5_check, cX5_check, 2, (some FieldType.boolean))
abbrev mX10_breakDriver : ab_M := (yX10_breakDriver, cX10_breakDriver, 1, (none : Option FieldType))
abbrev mX1_end : ab_M := (yX1_end, cX1_end, 2, (none : Option FieldType))
abbrev mX2_loseAll : ab_M := (yX2_loseAll, cX2_loseAll, 1, (none : Option FieldType))
abbrev mX2_takeTurn : ab_M := (yX2_takeTurn, cX2_takeTurn, 3, (none : Option FieldType))
abbrev mX0_firstOf : ab_M := (yX0_firstOf, cX0_firstOf, 3, (some FieldType.int))
abbrev mX2_work : ab_M := (yX2_work, cX2_work, 4, (none : Option FieldType))
abbrev mX6_setNumbers : ab_M := (yX6_setNumbers, cX6_setNumbers, 5, (none : Option FieldType))
abbrev mX2_begin : ab_M := (yX2_begin, cX2_begin, 3, (none : Option FieldType))
abbrev mX3_takeTurn : ab_M := (yX3_takeTurn, cX3_takeTurn, 4, (none : Option FieldType))
abbrev mX0_firstFor : ab_M := (yX0_firstFor, cX0_firstFor, 3, (some FieldType.int))
abbrev mX3_openFile : ab_M := (yX3_openFile, cX3_openFile, 4, (some FieldType.int))
abbrev mX7_leastFree : ab_M := (yX7_leastFree, cX7_leastFree, 3, (some FieldType.int))
abbrev mX7_slot : ab_M := (yX7_slot, cX7_slot, 4, (some FieldType.int))
abbrev mX4_has : ab_M := (yX4_has, cX4_has, 2, (some FieldType.boolean))
abbrev mX4_make : ab_M := (yX4_make, cX4_make, 2, (none : Option FieldType))
abbrev mX7_set : ab_M := (yX7_set, cX7_set, 6, (none : Option FieldType))
abbrev mX3_removeFile : ab_M := (yX3_removeFile, cX3_removeFile, 2, (some FieldType.int))
abbrev mX7_anybodyHas : ab_M := (yX7_anybodyHas, cX7_anybodyHas, 3, (some FieldType.boolean))
abbrev mX4_discard : ab_M := (yX4_discard, cX4_discard, 3, (none : Option FieldType))
abbrev mX4_release : ab_M := (yX4_release, cX4_release, 2, (none : Option FieldType))
abbrev mX3_read : ab_M := (yX3_read, cX3_read, 6, (none : Option FieldType))
abbrev mX7_fileAt : ab_M := (yX7_fileAt, cX7_fileAt, 4, (some FieldType.int))
abbrev mX7_placeAt : ab_M := (yX7_placeAt, cX7_placeAt, 4, (some FieldType.int))
abbrev mX4_sizeOf : ab_M := (yX4_sizeOf, cX4_sizeOf, 2, (some FieldType.int))
abbrev mX3_takeInHand : ab_M := (yX3_takeInHand, cX3_takeInHand, 5, (none : Option FieldType))
abbrev mX4_blockOf : ab_M := (yX4_blockOf, cX4_blockOf, 4, (some FieldType.int))
abbrev mX3_ask : ab_M := (yX3_ask, cX3_ask, 4, (none : Option FieldType))
abbrev mX3_write : ab_M := (yX3_write, cX3_write, 9, (none : Option FieldType))
abbrev mX3_whyNotWrite : ab_M := (yX3_whyNotWrite, cX3_whyNotWrite, 3, (some FieldType.int))
abbrev mX4_needsBlock : ab_M := (yX4_needsBlock, cX4_needsBlock, 3, (some FieldType.boolean))
abbrev mX4_takeBlock : ab_M := (yX4_takeBlock, cX4_takeBlock, 4, (some FieldType.int))
abbrev mX3_goOn : ab_M := (yX3_goOn, cX3_goOn, 6, (none : Option FieldType))
abbrev mJ9_floorMod_7cf53 : ab_M := (yJ9_floorMod_7cf53, cJ9_floorMod_7cf53, 3, (some FieldType.int))
abbrev mX4_growOver : ab_M := (yX4_growOver, cX4_growOver, 3, (none : Option FieldType))
abbrev mX7_setPlace : ab_M := (yX7_setPlace, cX7_setPlace, 5, (none : Option FieldType))
abbrev mX3_hearOfLife : ab_M := (yX3_hearOfLife, cX3_hearOfLife, 3, (none : Option FieldType))
abbrev mX7_copyAll : ab_M := (yX7_copyAll, cX7_copyAll, 4, (none : Option FieldType))
abbrev mX7_closeAll : ab_M := (yX7_closeAll, cX7_closeAll, 3, (none : Option FieldType))
abbrev mX3_handle : ab_M := (yX3_handle, cX3_handle, 6, (some FieldType.int))
abbrev mX8_takeTurn : ab_M := (yX8_takeTurn, cX8_takeTurn, 6, (none : Option FieldType))
abbrev mX8_goOn : ab_M := (yX8_goOn, cX8_goOn, 3, (none : Option FieldType))
abbrev mX8_leaveChildren : ab_M := (yX8_leaveChildren, cX8_leaveChildren, 3, (none : Option FieldType))
abbrev mX8_collect : ab_M := (yX8_collect, cX8_collect, 2, (some FieldType.int))
abbrev mX8_fork : ab_M := (yX8_fork, cX8_fork, 4, (none : Option FieldType))
abbrev mX8_waitFor : ab_M := (yX8_waitFor, cX8_waitFor, 4, (none : Option FieldType))
abbrev mX8_end : ab_M := (yX8_end, cX8_end, 6, (none : Option FieldType))
abbrev mX0_dropFrom : ab_M := (yX0_dropFrom, cX0_dropFrom, 3, (none : Option FieldType))
abbrev mX8_await : ab_M := (yX8_await, cX8_await, 5, (none : Option FieldType))
abbrev mX9_takeTurn : ab_M := (yX9_takeTurn, cX9_takeTurn, 4, (none : Option FieldType))
abbrev mX10_until : ab_M := (yX10_until, cX10_until, 4, (some FieldType.int))
abbrev mX10_crash : ab_M := (yX10_crash, cX10_crash, 1, (some FieldType.boolean))
abbrev mX10_hang : ab_M := (yX10_hang, cX10_hang, 1, (some FieldType.boolean))
abbrev mX10_force : ab_M := (yX10_force, cX10_force, 3, (some FieldType.int))
abbrev mX10_descriptor : ab_M := (yX10_descriptor, cX10_descriptor, 4, (some FieldType.int))
abbrev mX10_file : ab_M := (yX10_file, cX10_file, 3, (some FieldType.int))
abbrev mX10_inbox : ab_M := (yX10_inbox, cX10_inbox, 2, (some FieldType.int))
abbrev mX10_message : ab_M := (yX10_message, cX10_message, 5, (some FieldType.int))
abbrev mX0_look : ab_M := (yX0_look, cX0_look, 2, (some (FieldType.object "ServerHouse$Message")))
abbrev mX10_count : ab_M := (yX10_count, cX10_count, 2, (some FieldType.int))
abbrev mX1_livingUsers : ab_M := (yX1_livingUsers, cX1_livingUsers, 3, (some FieldType.int))
abbrev mX10_user : ab_M := (yX10_user, cX10_user, 3, (some FieldType.int))
abbrev mX8_hasEnded : ab_M := (yX8_hasEnded, cX8_hasEnded, 2, (some FieldType.boolean))
abbrev mX8_parentOf : ab_M := (yX8_parentOf, cX8_parentOf, 2, (some FieldType.int))
abbrev mX8_codeOf : ab_M := (yX8_codeOf, cX8_codeOf, 2, (some FieldType.int))
abbrev mX7_howMany : ab_M := (yX7_howMany, cX7_howMany, 4, (some FieldType.int))
abbrev mX10_disk : ab_M := (yX10_disk, cX10_disk, 3, (some FieldType.int))
abbrev mX11_thrown : ab_M := (yX11_thrown, cX11_thrown, 1, (some FieldType.int))
abbrev mX11_init : ab_M := (yX11_init, cX11_init, 2, (none : Option FieldType))
abbrev mX11_steps : ab_M := (yX11_steps, cX11_steps, 3, (some FieldType.int))
abbrev mX11_turn : ab_M := (yX11_turn, cX11_turn, 2, (none : Option FieldType))
abbrev mX11_lives : ab_M := (yX11_lives, cX11_lives, 2, (some FieldType.boolean))
abbrev mX11_isUser : ab_M := (yX11_isUser, cX11_isUser, 1, (some FieldType.boolean))
abbrev mX11_keeper : ab_M := (yX11_keeper, cX11_keeper, 1, (none : Option FieldType))
abbrev mX11_sendsAgain : ab_M := (yX11_sendsAgain, cX11_sendsAgain, 3, (some FieldType.boolean))
abbrev mX11_sends : ab_M := (yX11_sends, cX11_sends, 4, (none : Option FieldType))
abbrev mX11_send : ab_M := (yX11_send, cX11_send, 6, (some FieldType.int))
abbrev mX11_isAllowed : ab_M := (yX11_isAllowed, cX11_isAllowed, 2, (some FieldType.boolean))
abbrev mX11_starts : ab_M := (yX11_starts, cX11_starts, 1, (none : Option FieldType))
abbrev mX11_drafts : ab_M := (yX11_drafts, cX11_drafts, 5, (none : Option FieldType))
abbrev mX11_takeOut : ab_M := (yX11_takeOut, cX11_takeOut, 5, (none : Option FieldType))
abbrev mX11_drop : ab_M := (yX11_drop, cX11_drop, 4, (none : Option FieldType))
abbrev mX11_crashesNow : ab_M := (yX11_crashesNow, cX11_crashesNow, 1, (none : Option FieldType))
abbrev mX11_driver : ab_M := (yX11_driver, cX11_driver, 2, (none : Option FieldType))
abbrev mX11_field : ab_M := (yX11_field, cX11_field, 4, (some FieldType.int))
abbrev mX11_works : ab_M := (yX11_works, cX11_works, 2, (none : Option FieldType))
abbrev mX11_files : ab_M := (yX11_files, cX11_files, 3, (none : Option FieldType))
abbrev mX11_goesOn : ab_M := (yX11_goesOn, cX11_goesOn, 4, (none : Option FieldType))
abbrev mX11_tells : ab_M := (yX11_tells, cX11_tells, 4, (none : Option FieldType))
abbrev mX11_asksDriver : ab_M := (yX11_asksDriver, cX11_asksDriver, 2, (none : Option FieldType))
abbrev mX11_copies : ab_M := (yX11_copies, cX11_copies, 4, (none : Option FieldType))
abbrev mX11_closesAll : ab_M := (yX11_closesAll, cX11_closesAll, 3, (none : Option FieldType))
abbrev mX11_begins : ab_M := (yX11_begins, cX11_begins, 8, (none : Option FieldType))
abbrev mX11_opens : ab_M := (yX11_opens, cX11_opens, 4, (some FieldType.int))
abbrev mX11_filesThere : ab_M := (yX11_filesThere, cX11_filesThere, 3, (some FieldType.int))
abbrev mX11_removes : ab_M := (yX11_removes, cX11_removes, 3, (some FieldType.int))
abbrev mX11_reads : ab_M := (yX11_reads, cX11_reads, 5, (none : Option FieldType))
abbrev mX11_writes : ab_M := (yX11_writes, cX11_writes, 8, (none : Option FieldType))
abbrev mX11_processes : ab_M := (yX11_processes, cX11_processes, 4, (none : Option FieldType))
abbrev mX11_forks : ab_M := (yX11_forks, cX11_forks, 3, (none : Option FieldType))
abbrev mX11_holds : ab_M := (yX11_holds, cX11_holds, 4, (none : Option FieldType))
abbrev mX11_ends : ab_M := (yX11_ends, cX11_ends, 7, (none : Option FieldType))
abbrev mX11_waitsFor : ab_M := (yX11_waitsFor, cX11_waitsFor, 6, (none : Option FieldType))
abbrev mX11_freed : ab_M := (yX11_freed, cX11_freed, 2, (some FieldType.int))
abbrev mX11_done : ab_M := (yX11_done, cX11_done, 3, (none : Option FieldType))
abbrev mX11_ofUser : ab_M := (yX11_ofUser, cX11_ofUser, 2, (none : Option FieldType))
abbrev mX11_until : ab_M := (yX11_until, cX11_until, 4, (some FieldType.int))
abbrev mX11_call : ab_M := (yX11_call, cX11_call, 5, (some FieldType.int))
abbrev mX11_crash : ab_M := (yX11_crash, cX11_crash, 1, (some FieldType.boolean))
abbrev mX11_hang : ab_M := (yX11_hang, cX11_hang, 1, (some FieldType.boolean))
abbrev mX11_force : ab_M := (yX11_force, cX11_force, 3, (some FieldType.int))
abbrev mX11_isPart : ab_M := (yX11_isPart, cX11_isPart, 1, (some FieldType.boolean))
abbrev mX11_user : ab_M := (yX11_user, cX11_user, 5, (some FieldType.int))
abbrev mX11_descriptor : ab_M := (yX11_descriptor, cX11_descriptor, 4, (some FieldType.int))
abbrev mX11_file : ab_M := (yX11_file, cX11_file, 3, (some FieldType.int))
abbrev mX11_disk : ab_M := (yX11_disk, cX11_disk, 3, (some FieldType.int))
abbrev mX11_inbox : ab_M := (yX11_inbox, cX11_inbox, 2, (some FieldType.int))
abbrev mX11_message : ab_M := (yX11_message, cX11_message, 4, (some FieldType.int))
abbrev mX11_count : ab_M := (yX11_count, cX11_count, 5, (some FieldType.int))
