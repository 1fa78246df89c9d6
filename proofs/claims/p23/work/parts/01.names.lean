-- ===== PART A: goes FIRST, ahead of the names: the tables' words, and 'selects' of the private methods out of them =====
/-- a private method of a class that the tables say can be made, by its rows of tables_1 -/
def lw_okq (q : MethodName × Nat) : Prop := (q.1.cls ≠ "java/lang/invoke/MethodHandle" ∧ q.1.cls ≠ "java/lang/invoke/VarHandle") ∧ Cond.instantiable q.1.cls q.2 ∈ tables_1 ∧ Cond.privateMethod q.1 ∈ tables_1 ∧ Cond.instanceMethod q.1 ∈ tables_1
theorem lw_p0 : lw_okq (⟨"RelayTransfer$Setup", "giveFirstValues", "()V"⟩, 9) := ⟨⟨by decide +kernel, by decide +kernel⟩, List.mem_of_getElem? (i := 26) (by decide +kernel), List.mem_of_getElem? (i := 43) (by decide +kernel), List.mem_of_getElem? (i := 44) (by decide +kernel)⟩
theorem lw_p1 : lw_okq (⟨"RelayTransfer", "remember", "()V"⟩, 6) := ⟨⟨by decide +kernel, by decide +kernel⟩, List.mem_of_getElem? (i := 12) (by decide +kernel), List.mem_of_getElem? (i := 261) (by decide +kernel), List.mem_of_getElem? (i := 262) (by decide +kernel)⟩
theorem lw_p2 : lw_okq (⟨"RelayTransfer", "dropOldestRecord", "()V"⟩, 6) := ⟨⟨by decide +kernel, by decide +kernel⟩, List.mem_of_getElem? (i := 12) (by decide +kernel), List.mem_of_getElem? (i := 265) (by decide +kernel), List.mem_of_getElem? (i := 266) (by decide +kernel)⟩
theorem lw_p3 : lw_okq (⟨"RelayTransfer", "isBlock", "(I)Z"⟩, 6) := ⟨⟨by decide +kernel, by decide +kernel⟩, List.mem_of_getElem? (i := 12) (by decide +kernel), List.mem_of_getElem? (i := 327) (by decide +kernel), List.mem_of_getElem? (i := 328) (by decide +kernel)⟩
theorem lw_p4 : lw_okq (⟨"RelayTransfer", "isLink", "(I)Z"⟩, 6) := ⟨⟨by decide +kernel, by decide +kernel⟩, List.mem_of_getElem? (i := 12) (by decide +kernel), List.mem_of_getElem? (i := 335) (by decide +kernel), List.mem_of_getElem? (i := 336) (by decide +kernel)⟩
theorem lw_p5 : lw_okq (⟨"RelayTransfer", "isBlockSet", "(I)Z"⟩, 6) := ⟨⟨by decide +kernel, by decide +kernel⟩, List.mem_of_getElem? (i := 12) (by decide +kernel), List.mem_of_getElem? (i := 382) (by decide +kernel), List.mem_of_getElem? (i := 383) (by decide +kernel)⟩
theorem lw_p6 : lw_okq (⟨"RelayTransfer$Receiver", "peel", "(II)V"⟩, 8) := ⟨⟨by decide +kernel, by decide +kernel⟩, List.mem_of_getElem? (i := 92) (by decide +kernel), List.mem_of_getElem? (i := 397) (by decide +kernel), List.mem_of_getElem? (i := 398) (by decide +kernel)⟩
theorem lw_p7 : lw_okq (⟨"RelayTransfer$Receiver", "solve", "(I)V"⟩, 8) := ⟨⟨by decide +kernel, by decide +kernel⟩, List.mem_of_getElem? (i := 92) (by decide +kernel), List.mem_of_getElem? (i := 448) (by decide +kernel), List.mem_of_getElem? (i := 449) (by decide +kernel)⟩
theorem lw_p8 : lw_okq (⟨"RelayTransfer$Transfer", "make", "(I)I"⟩, 8) := ⟨⟨by decide +kernel, by decide +kernel⟩, List.mem_of_getElem? (i := 20) (by decide +kernel), List.mem_of_getElem? (i := 480) (by decide +kernel), List.mem_of_getElem? (i := 481) (by decide +kernel)⟩
theorem lw_p9 : lw_okq (⟨"RelayTransfer$Transfer", "recode", "(LRelayTransfer$PacketList;)I"⟩, 8) := ⟨⟨by decide +kernel, by decide +kernel⟩, List.mem_of_getElem? (i := 20) (by decide +kernel), List.mem_of_getElem? (i := 507) (by decide +kernel), List.mem_of_getElem? (i := 508) (by decide +kernel)⟩
theorem lw_p10 : lw_okq (⟨"RelayTransfer$Transfer", "forward", "(LRelayTransfer$PacketList;)I"⟩, 8) := ⟨⟨by decide +kernel, by decide +kernel⟩, List.mem_of_getElem? (i := 20) (by decide +kernel), List.mem_of_getElem? (i := 514) (by decide +kernel), List.mem_of_getElem? (i := 515) (by decide +kernel)⟩
theorem lw_p11 : lw_okq (⟨"RelayTransfer$Transfer", "store", "(LRelayTransfer$PacketList;I)V"⟩, 8) := ⟨⟨by decide +kernel, by decide +kernel⟩, List.mem_of_getElem? (i := 20) (by decide +kernel), List.mem_of_getElem? (i := 525) (by decide +kernel), List.mem_of_getElem? (i := 526) (by decide +kernel)⟩
theorem lw_p12 : lw_okq (⟨"RelayTransfer", "ticksOfTrial", "(II)I"⟩, 6) := ⟨⟨by decide +kernel, by decide +kernel⟩, List.mem_of_getElem? (i := 12) (by decide +kernel), List.mem_of_getElem? (i := 607) (by decide +kernel), List.mem_of_getElem? (i := 608) (by decide +kernel)⟩
def lw_privs_1 : List (MethodName × Nat) := [(⟨"RelayTransfer$Setup", "giveFirstValues", "()V"⟩, 9), (⟨"RelayTransfer", "remember", "()V"⟩, 6), (⟨"RelayTransfer", "dropOldestRecord", "()V"⟩, 6), (⟨"RelayTransfer", "isBlock", "(I)Z"⟩, 6), (⟨"RelayTransfer", "isLink", "(I)Z"⟩, 6), (⟨"RelayTransfer", "isBlockSet", "(I)Z"⟩, 6), (⟨"RelayTransfer$Receiver", "peel", "(II)V"⟩, 8), (⟨"RelayTransfer$Receiver", "solve", "(I)V"⟩, 8), (⟨"RelayTransfer$Transfer", "make", "(I)I"⟩, 8), (⟨"RelayTransfer$Transfer", "recode", "(LRelayTransfer$PacketList;)I"⟩, 8), (⟨"RelayTransfer$Transfer", "forward", "(LRelayTransfer$PacketList;)I"⟩, 8), (⟨"RelayTransfer$Transfer", "store", "(LRelayTransfer$PacketList;I)V"⟩, 8), (⟨"RelayTransfer", "ticksOfTrial", "(II)I"⟩, 6)]
theorem lw_r1 : ∀ q ∈ lw_privs_1, lw_okq q := List.forall_mem_cons.mpr ⟨lw_p0, List.forall_mem_cons.mpr ⟨lw_p1, List.forall_mem_cons.mpr ⟨lw_p2, List.forall_mem_cons.mpr ⟨lw_p3, List.forall_mem_cons.mpr ⟨lw_p4, List.forall_mem_cons.mpr ⟨lw_p5, List.forall_mem_cons.mpr ⟨lw_p6, List.forall_mem_cons.mpr ⟨lw_p7, List.forall_mem_cons.mpr ⟨lw_p8, List.forall_mem_cons.mpr ⟨lw_p9, List.forall_mem_cons.mpr ⟨lw_p10, List.forall_mem_cons.mpr ⟨lw_p11, List.forall_mem_cons.mpr ⟨lw_p12, fun _ h => absurd h List.not_mem_nil⟩⟩⟩⟩⟩⟩⟩⟩⟩⟩⟩⟩⟩
def lw_privs : List (MethodName × Nat) := lw_privs_1
def lw_tbl : List Cond := k2_sels lw_privs ++ tables_1
theorem lw_privs_ok : ∀ q ∈ lw_privs, lw_okq q := lw_r1
/-- the streams that the claim lets the run draw from -/
abbrev lw_cs : List Choice := [Jvm.Choice.named "NaN.bits"]
theorem lw_bits : nanBits ∈ lw_cs := by first | decide | exact List.mem_cons_self | simp [lw_cs, nanBits]

def RX0 : String := "RelayTransfer$Findings"
def TX0 : u_T := fun k => match k with
  | 0 => ("RelayTransfer$Findings", "singles", "[I", true)
  | 1 => ("RelayTransfer$Findings", "times", "[I", true)
  | _ => ("RelayTransfer$Findings", "count", "I", false)
def tyX0 : Nat → FieldType := fun k => match k with
  | 0 => .array .int
  | 1 => .array .int
  | _ => .int
abbrev wsX00 : List Cond := u_ws RX0 TX0 3
theorem nmX0 : ∀ a, a < 3 → ∀ b, b < 3 → a ≠ b → (TX0 a).2.1 ≠ (TX0 b).2.1 := by decide +kernel
theorem tyX0_ok : ∀ k, k < 3 → parseFieldDescriptor (TX0 k).2.2.1 = some (tyX0 k) := by decide +kernel
abbrev cX0_init : ByteArray := prog_2_method_1_code
def yX0_init : MethodName := ⟨RX0, "<init>", "()V"⟩
abbrev cX0_has : ByteArray := prog_2_method_2_code
def yX0_has : MethodName := ⟨RX0, "has", "(I)Z"⟩
abbrev cX0_add : ByteArray := prog_2_method_3_code
def yX0_add : MethodName := ⟨RX0, "add", "(II)V"⟩
abbrev cX0_valueAt : ByteArray := prog_2_method_4_code
def yX0_valueAt : MethodName := ⟨RX0, "valueAt", "(I)I"⟩
abbrev cX0_takenOutOf : ByteArray := prog_2_method_5_code
def yX0_takenOutOf : MethodName := ⟨RX0, "takenOutOf", "(I)I"⟩
abbrev cX0_clear : ByteArray := prog_2_method_6_code
def yX0_clear : MethodName := ⟨RX0, "clear", "()V"⟩
abbrev cX0_copyFrom : ByteArray := prog_2_method_7_code
def yX0_copyFrom : MethodName := ⟨RX0, "copyFrom", "(LRelayTransfer$Findings;)V"⟩
def RX1 : String := "RelayTransfer$PacketList"
def TX1 : u_T := fun k => match k with
  | 0 => ("RelayTransfer$PacketList", "packets", "[I", true)
  | _ => ("RelayTransfer$PacketList", "size", "I", false)
def tyX1 : Nat → FieldType := fun k => match k with
  | 0 => .array .int
  | _ => .int
abbrev wsX10 : List Cond := u_ws RX1 TX1 2
theorem nmX1 : ∀ a, a < 2 → ∀ b, b < 2 → a ≠ b → (TX1 a).2.1 ≠ (TX1 b).2.1 := by decide +kernel
theorem tyX1_ok : ∀ k, k < 2 → parseFieldDescriptor (TX1 k).2.2.1 = some (tyX1 k) := by decide +kernel
abbrev cX1_init : ByteArray := prog_3_method_1_code
def yX1_init : MethodName := ⟨RX1, "<init>", "(I)V"⟩
abbrev cX1_at : ByteArray := prog_3_method_2_code
def yX1_at : MethodName := ⟨RX1, "at", "(I)I"⟩
abbrev cX1_append : ByteArray := prog_3_method_3_code
def yX1_append : MethodName := ⟨RX1, "append", "(I)V"⟩
abbrev cX1_removeAt : ByteArray := prog_3_method_4_code
def yX1_removeAt : MethodName := ⟨RX1, "removeAt", "(I)I"⟩
abbrev cX1_removeFrontsBeyond : ByteArray := prog_3_method_5_code
def yX1_removeFrontsBeyond : MethodName := ⟨RX1, "removeFrontsBeyond", "(I)V"⟩
abbrev cX1_takeOut : ByteArray := prog_3_method_6_code
def yX1_takeOut : MethodName := ⟨RX1, "takeOut", "(I)V"⟩
abbrev cX1_removeFirstSingle : ByteArray := prog_3_method_7_code
def yX1_removeFirstSingle : MethodName := ⟨RX1, "removeFirstSingle", "()I"⟩
abbrev cX1_placeOfMostCommon : ByteArray := prog_3_method_8_code
def yX1_placeOfMostCommon : MethodName := ⟨RX1, "placeOfMostCommon", "(I)I"⟩
abbrev cX1_clear : ByteArray := prog_3_method_9_code
def yX1_clear : MethodName := ⟨RX1, "clear", "()V"⟩
abbrev cX1_copyFrom : ByteArray := prog_3_method_10_code
def yX1_copyFrom : MethodName := ⟨RX1, "copyFrom", "(LRelayTransfer$PacketList;)V"⟩
def RX2 : String := "RelayTransfer$Receiver"
def TX2 : u_T := fun k => match k with
  | 0 => ("RelayTransfer$Receiver", "kept", "LRelayTransfer$PacketList;", true)
  | 1 => ("RelayTransfer$Receiver", "span", "LRelayTransfer$Span;", true)
  | 2 => ("RelayTransfer$Receiver", "solved", "LRelayTransfer$Findings;", true)
  | 3 => ("RelayTransfer$Receiver", "waiting", "LRelayTransfer$PacketList;", true)
  | 4 => ("RelayTransfer$Receiver", "peeled", "LRelayTransfer$Findings;", true)
  | 5 => ("RelayTransfer$Receiver", "arrived", "I", false)
  | 6 => ("RelayTransfer$Receiver", "stale", "I", false)
  | _ => ("RelayTransfer$Receiver", "mostWaiting", "I", false)
def tyX2 : Nat → FieldType := fun k => match k with
  | 0 => .object "RelayTransfer$PacketList"
  | 1 => .object "RelayTransfer$Span"
  | 2 => .object "RelayTransfer$Findings"
  | 3 => .object "RelayTransfer$PacketList"
  | 4 => .object "RelayTransfer$Findings"
  | 5 => .int
  | 6 => .int
  | _ => .int
abbrev wsX20 : List Cond := u_ws RX2 TX2 8
theorem nmX2 : ∀ a, a < 8 → ∀ b, b < 8 → a ≠ b → (TX2 a).2.1 ≠ (TX2 b).2.1 := by decide +kernel
theorem tyX2_ok : ∀ k, k < 8 → parseFieldDescriptor (TX2 k).2.2.1 = some (tyX2 k) := by decide +kernel
abbrev cX2_init : ByteArray := prog_4_method_1_code
def yX2_init : MethodName := ⟨RX2, "<init>", "()V"⟩
abbrev cX2_accept : ByteArray := prog_4_method_2_code
def yX2_accept : MethodName := ⟨RX2, "accept", "(II)Z"⟩
abbrev cX2_peel : ByteArray := prog_4_method_3_code
def yX2_peel : MethodName := ⟨RX2, "peel", "(II)V"⟩
abbrev cX2_solve : ByteArray := prog_4_method_4_code
def yX2_solve : MethodName := ⟨RX2, "solve", "(I)V"⟩
abbrev cX2_clear : ByteArray := prog_4_method_5_code
def yX2_clear : MethodName := ⟨RX2, "clear", "()V"⟩
abbrev cX2_copyFrom : ByteArray := prog_4_method_6_code
def yX2_copyFrom : MethodName := ⟨RX2, "copyFrom", "(LRelayTransfer$Receiver;)V"⟩
def RX3 : String := "RelayTransfer$Setup"
def TX3 : u_T := fun k => match k with
  | 0 => ("RelayTransfer$Setup", "values", "[I", true)
  | 1 => ("RelayTransfer$Setup", "losses", "[I", true)
  | 2 => ("RelayTransfer$Setup", "weights", "[I", true)
  | 3 => ("RelayTransfer$Setup", "blocks", "I", false)
  | 4 => ("RelayTransfer$Setup", "relays", "I", false)
  | 5 => ("RelayTransfer$Setup", "room", "I", false)
  | 6 => ("RelayTransfer$Setup", "policy", "I", false)
  | 7 => ("RelayTransfer$Setup", "style", "I", false)
  | _ => ("RelayTransfer$Setup", "seed", "I", false)
def tyX3 : Nat → FieldType := fun k => match k with
  | 0 => .array .int
  | 1 => .array .int
  | 2 => .array .int
  | 3 => .int
  | 4 => .int
  | 5 => .int
  | 6 => .int
  | 7 => .int
  | _ => .int
abbrev wsX30 : List Cond := u_ws RX3 TX3 9
theorem nmX3 : ∀ a, a < 9 → ∀ b, b < 9 → a ≠ b → (TX3 a).2.1 ≠ (TX3 b).2.1 := by decide +kernel
theorem tyX3_ok : ∀ k, k < 9 → parseFieldDescriptor (TX3 k).2.2.1 = some (tyX3 k) := by decide +kernel
abbrev cX3_init : ByteArray := prog_5_method_1_code
def yX3_init : MethodName := ⟨RX3, "<init>", "()V"⟩
abbrev cX3_giveFirstValues : ByteArray := prog_5_method_2_code
def yX3_giveFirstValues : MethodName := ⟨RX3, "giveFirstValues", "()V"⟩
abbrev cX3_restart : ByteArray := prog_5_method_3_code
def yX3_restart : MethodName := ⟨RX3, "restart", "(II)V"⟩
abbrev cX3_changePolicy : ByteArray := prog_5_method_4_code
def yX3_changePolicy : MethodName := ⟨RX3, "changePolicy", "(I)I"⟩
abbrev cX3_changeStyle : ByteArray := prog_5_method_5_code
def yX3_changeStyle : MethodName := ⟨RX3, "changeStyle", "(I)I"⟩
abbrev cX3_changeSeed : ByteArray := prog_5_method_6_code
def yX3_changeSeed : MethodName := ⟨RX3, "changeSeed", "(I)I"⟩
abbrev cX3_draw : ByteArray := prog_5_method_7_code
def yX3_draw : MethodName := ⟨RX3, "draw", "(I)I"⟩
abbrev cX3_isLostOn : ByteArray := prog_5_method_8_code
def yX3_isLostOn : MethodName := ⟨RX3, "isLostOn", "(I)Z"⟩
abbrev cX3_weightSum : ByteArray := prog_5_method_9_code
def yX3_weightSum : MethodName := ⟨RX3, "weightSum", "()I"⟩
abbrev cX3_drawDegree : ByteArray := prog_5_method_10_code
def yX3_drawDegree : MethodName := ⟨RX3, "drawDegree", "()I"⟩
abbrev cX3_drawPacket : ByteArray := prog_5_method_11_code
def yX3_drawPacket : MethodName := ⟨RX3, "drawPacket", "()I"⟩
abbrev cX3_packetOf : ByteArray := prog_5_method_12_code
def yX3_packetOf : MethodName := ⟨RX3, "packetOf", "(I)I"⟩
abbrev cX3_copyFrom : ByteArray := prog_5_method_13_code
def yX3_copyFrom : MethodName := ⟨RX3, "copyFrom", "(LRelayTransfer$Setup;)V"⟩
def RX4 : String := "RelayTransfer$Span"
def TX4 : u_T := fun k => match k with
  | 0 => ("RelayTransfer$Span", "rows", "[I", true)
  | _ => ("RelayTransfer$Span", "rank", "I", false)
def tyX4 : Nat → FieldType := fun k => match k with
  | 0 => .array .int
  | _ => .int
abbrev wsX40 : List Cond := u_ws RX4 TX4 2
theorem nmX4 : ∀ a, a < 2 → ∀ b, b < 2 → a ≠ b → (TX4 a).2.1 ≠ (TX4 b).2.1 := by decide +kernel
theorem tyX4_ok : ∀ k, k < 2 → parseFieldDescriptor (TX4 k).2.2.1 = some (tyX4 k) := by decide +kernel
abbrev cX4_init : ByteArray := prog_6_method_1_code
def yX4_init : MethodName := ⟨RX4, "<init>", "()V"⟩
abbrev cX4_take : ByteArray := prog_6_method_2_code
def yX4_take : MethodName := ⟨RX4, "take", "(I)Z"⟩
abbrev cX4_reduce : ByteArray := prog_6_method_3_code
def yX4_reduce : MethodName := ⟨RX4, "reduce", "(I)I"⟩
abbrev cX4_clear : ByteArray := prog_6_method_4_code
def yX4_clear : MethodName := ⟨RX4, "clear", "()V"⟩
abbrev cX4_copyFrom : ByteArray := prog_6_method_5_code
def yX4_copyFrom : MethodName := ⟨RX4, "copyFrom", "(LRelayTransfer$Span;)V"⟩
def RX5 : String := "RelayTransfer$Transfer"
def TX5 : u_T := fun k => match k with
  | 0 => ("RelayTransfer$Transfer", "setup", "LRelayTransfer$Setup;", true)
  | 1 => ("RelayTransfer$Transfer", "stores", "[LRelayTransfer$PacketList;", true)
  | 2 => ("RelayTransfer$Transfer", "receiver", "LRelayTransfer$Receiver;", true)
  | 3 => ("RelayTransfer$Transfer", "time", "I", false)
  | 4 => ("RelayTransfer$Transfer", "made", "I", false)
  | 5 => ("RelayTransfer$Transfer", "lost", "I", false)
  | 6 => ("RelayTransfer$Transfer", "onLinks", "[I", true)
  | _ => ("RelayTransfer$Transfer", "work", "LRelayTransfer$Span;", true)
def tyX5 : Nat → FieldType := fun k => match k with
  | 0 => .object "RelayTransfer$Setup"
  | 1 => .array (.object "RelayTransfer$PacketList")
  | 2 => .object "RelayTransfer$Receiver"
  | 3 => .int
  | 4 => .int
  | 5 => .int
  | 6 => .array .int
  | _ => .object "RelayTransfer$Span"
abbrev wsX50 : List Cond := u_ws RX5 TX5 8
theorem nmX5 : ∀ a, a < 8 → ∀ b, b < 8 → a ≠ b → (TX5 a).2.1 ≠ (TX5 b).2.1 := by decide +kernel
theorem tyX5_ok : ∀ k, k < 8 → parseFieldDescriptor (TX5 k).2.2.1 = some (tyX5 k) := by decide +kernel
abbrev cX5_init : ByteArray := prog_7_method_1_code
def yX5_init : MethodName := ⟨RX5, "<init>", "()V"⟩
abbrev cX5_restart : ByteArray := prog_7_method_2_code
def yX5_restart : MethodName := ⟨RX5, "restart", "(II)V"⟩
abbrev cX5_changeRoom : ByteArray := prog_7_method_3_code
def yX5_changeRoom : MethodName := ⟨RX5, "changeRoom", "(I)I"⟩
abbrev cX5_isComplete : ByteArray := prog_7_method_4_code
def yX5_isComplete : MethodName := ⟨RX5, "isComplete", "(I)Z"⟩
abbrev cX5_listOf : ByteArray := prog_7_method_5_code
def yX5_listOf : MethodName := ⟨RX5, "listOf", "(I)LRelayTransfer$PacketList;"⟩
abbrev cX5_rankOf : ByteArray := prog_7_method_6_code
def yX5_rankOf : MethodName := ⟨RX5, "rankOf", "(LRelayTransfer$PacketList;)I"⟩
abbrev cX5_isNovelFor : ByteArray := prog_7_method_7_code
def yX5_isNovelFor : MethodName := ⟨RX5, "isNovelFor", "(LRelayTransfer$PacketList;I)Z"⟩
abbrev cX5_tick : ByteArray := prog_7_method_8_code
def yX5_tick : MethodName := ⟨RX5, "tick", "()V"⟩
abbrev cX5_make : ByteArray := prog_7_method_9_code
def yX5_make : MethodName := ⟨RX5, "make", "(I)I"⟩
abbrev cX5_forward : ByteArray := prog_7_method_10_code
def yX5_forward : MethodName := ⟨RX5, "forward", "(LRelayTransfer$PacketList;)I"⟩
abbrev cX5_recode : ByteArray := prog_7_method_11_code
def yX5_recode : MethodName := ⟨RX5, "recode", "(LRelayTransfer$PacketList;)I"⟩
abbrev cX5_store : ByteArray := prog_7_method_12_code
def yX5_store : MethodName := ⟨RX5, "store", "(LRelayTransfer$PacketList;I)V"⟩
abbrev cX5_copyFrom : ByteArray := prog_7_method_13_code
def yX5_copyFrom : MethodName := ⟨RX5, "copyFrom", "(LRelayTransfer$Transfer;)V"⟩
def RX6 : String := "RelayTransfer"
def TX6 : u_T := fun k => match k with
  | 0 => ("RelayTransfer", "now", "LRelayTransfer$Transfer;", true)
  | 1 => ("RelayTransfer", "trial", "LRelayTransfer$Transfer;", true)
  | 2 => ("RelayTransfer", "history", "[LRelayTransfer$Transfer;", true)
  | 3 => ("RelayTransfer", "images", "[LRelayTransfer$Transfer;", true)
  | 4 => ("RelayTransfer", "filled", "[Z", true)
  | _ => ("RelayTransfer", "recorded", "I", false)
def tyX6 : Nat → FieldType := fun k => match k with
  | 0 => .object "RelayTransfer$Transfer"
  | 1 => .object "RelayTransfer$Transfer"
  | 2 => .array (.object "RelayTransfer$Transfer")
  | 3 => .array (.object "RelayTransfer$Transfer")
  | 4 => .array .boolean
  | _ => .int
abbrev wsX60 : List Cond := u_ws RX6 TX6 6
theorem nmX6 : ∀ a, a < 6 → ∀ b, b < 6 → a ≠ b → (TX6 a).2.1 ≠ (TX6 b).2.1 := by decide +kernel
theorem tyX6_ok : ∀ k, k < 6 → parseFieldDescriptor (TX6 k).2.2.1 = some (tyX6 k) := by decide +kernel
abbrev cX6_init : ByteArray := prog_1_method_1_code
def yX6_init : MethodName := ⟨RX6, "<init>", "()V"⟩
abbrev cX6_begin : ByteArray := prog_1_method_2_code
def yX6_begin : MethodName := ⟨RX6, "begin", "(II)I"⟩
abbrev cX6_setBlock : ByteArray := prog_1_method_3_code
def yX6_setBlock : MethodName := ⟨RX6, "setBlock", "(II)I"⟩
abbrev cX6_setLoss : ByteArray := prog_1_method_4_code
def yX6_setLoss : MethodName := ⟨RX6, "setLoss", "(II)I"⟩
abbrev cX6_setWeight : ByteArray := prog_1_method_5_code
def yX6_setWeight : MethodName := ⟨RX6, "setWeight", "(II)I"⟩
abbrev cX6_set : ByteArray := prog_1_method_6_code
def yX6_set : MethodName := ⟨RX6, "set", "(II)I"⟩
abbrev cX6_run : ByteArray := prog_1_method_7_code
def yX6_run : MethodName := ⟨RX6, "run", "(I)I"⟩
abbrev cX6_inject : ByteArray := prog_1_method_8_code
def yX6_inject : MethodName := ⟨RX6, "inject", "(I)I"⟩
abbrev cX6_undo : ByteArray := prog_1_method_9_code
def yX6_undo : MethodName := ⟨RX6, "undo", "()I"⟩
abbrev cX6_told : ByteArray := prog_1_method_10_code
def yX6_told : MethodName := ⟨RX6, "told", "(I)I"⟩
abbrev cX6_block : ByteArray := prog_1_method_11_code
def yX6_block : MethodName := ⟨RX6, "block", "(II)I"⟩
abbrev cX6_packet : ByteArray := prog_1_method_12_code
def yX6_packet : MethodName := ⟨RX6, "packet", "(III)I"⟩
abbrev cX6_waiting : ByteArray := prog_1_method_13_code
def yX6_waiting : MethodName := ⟨RX6, "waiting", "(II)I"⟩
abbrev cX6_node : ByteArray := prog_1_method_14_code
def yX6_node : MethodName := ⟨RX6, "node", "(II)I"⟩
abbrev cX6_novel : ByteArray := prog_1_method_15_code
def yX6_novel : MethodName := ⟨RX6, "novel", "(II)I"⟩
abbrev cX6_overhead : ByteArray := prog_1_method_16_code
def yX6_overhead : MethodName := ⟨RX6, "overhead", "()F"⟩
abbrev cX6_forecast : ByteArray := prog_1_method_17_code
def yX6_forecast : MethodName := ⟨RX6, "forecast", "(I)I"⟩
abbrev cX6_keep : ByteArray := prog_1_method_20_code
def yX6_keep : MethodName := ⟨RX6, "keep", "(I)I"⟩
abbrev cX6_back : ByteArray := prog_1_method_21_code
def yX6_back : MethodName := ⟨RX6, "back", "(I)I"⟩
abbrev cX6_remember : ByteArray := prog_1_method_22_code
def yX6_remember : MethodName := ⟨RX6, "remember", "()V"⟩
abbrev cX6_dropOldestRecord : ByteArray := prog_1_method_23_code
def yX6_dropOldestRecord : MethodName := ⟨RX6, "dropOldestRecord", "()V"⟩
abbrev cX6_ticksOfTrial : ByteArray := prog_1_method_24_code
def yX6_ticksOfTrial : MethodName := ⟨RX6, "ticksOfTrial", "(II)I"⟩
abbrev cX6_isBlock : ByteArray := prog_1_method_25_code
def yX6_isBlock : MethodName := ⟨RX6, "isBlock", "(I)Z"⟩
abbrev cX6_isLink : ByteArray := prog_1_method_26_code
def yX6_isLink : MethodName := ⟨RX6, "isLink", "(I)Z"⟩
abbrev cX6_isBlockSet : ByteArray := prog_1_method_27_code
def yX6_isBlockSet : MethodName := ⟨RX6, "isBlockSet", "(I)Z"⟩
abbrev cX6_isSetting : ByteArray := prog_1_method_28_code
def yX6_isSetting : MethodName := ⟨RX6, "isSetting", "(II)Z"⟩
abbrev cX6_isWithin : ByteArray := prog_1_method_29_code
def yX6_isWithin : MethodName := ⟨RX6, "isWithin", "(III)Z"⟩
abbrev cX6_numberOfPacket : ByteArray := prog_1_method_30_code
def yX6_numberOfPacket : MethodName := ⟨RX6, "numberOfPacket", "(LRelayTransfer$PacketList;II)I"⟩
abbrev cX6_setIn : ByteArray := prog_1_method_31_code
def yX6_setIn : MethodName := ⟨RX6, "setIn", "(I)I"⟩
abbrev cX6_valueIn : ByteArray := prog_1_method_32_code
def yX6_valueIn : MethodName := ⟨RX6, "valueIn", "(I)I"⟩
abbrev cX6_degreeOf : ByteArray := prog_1_method_33_code
def yX6_degreeOf : MethodName := ⟨RX6, "degreeOf", "(I)I"⟩
abbrev cX6_hasBlock : ByteArray := prog_1_method_34_code
def yX6_hasBlock : MethodName := ⟨RX6, "hasBlock", "(II)Z"⟩
abbrev cX6_packetWith : ByteArray := prog_1_method_35_code
def yX6_packetWith : MethodName := ⟨RX6, "packetWith", "(II)I"⟩
abbrev cX6_copyRow : ByteArray := prog_1_method_36_code
def yX6_copyRow : MethodName := ⟨RX6, "copyRow", "([I[I)V"⟩
def RX7 : String := "RelayTransferModel"
def TX7 : u_T := fun k => match k with
  | _ => ("", "", "", false)
def tyX7 : Nat → FieldType := fun k => match k with
  | _ => .int
abbrev wsX70 : List Cond := u_ws RX7 TX7 0
theorem nmX7 : ∀ a, a < 0 → ∀ b, b < 0 → a ≠ b → (TX7 a).2.1 ≠ (TX7 b).2.1 := by decide +kernel
theorem tyX7_ok : ∀ k, k < 0 → parseFieldDescriptor (TX7 k).2.2.1 = some (tyX7 k) := by decide +kernel
def RJ6 : String := "java/lang/Integer"
def TJ6 : u_T := fun k => match k with
  | _ => ("", "", "", false)
def tyJ6 : Nat → FieldType := fun k => match k with
  | _ => .int
abbrev wsJ60 : List Cond := u_ws RJ6 TJ6 0
theorem nmJ6 : ∀ a, a < 0 → ∀ b, b < 0 → a ≠ b → (TJ6 a).2.1 ≠ (TJ6 b).2.1 := by decide +kernel
theorem tyJ6_ok : ∀ k, k < 0 → parseFieldDescriptor (TJ6 k).2.2.1 = some (tyJ6 k) := by decide +kernel
abbrev cJ6_bitCount_0f7a4 : ByteArray := prog_10_method_49_code
def yJ6_bitCount_0f7a4 : MethodName := ⟨RJ6, "bitCount", "(I)I"⟩
def RJ9 : String := "java/lang/Math"
def TJ9 : u_T := fun k => match k with
  | _ => ("", "", "", false)
def tyJ9 : Nat → FieldType := fun k => match k with
  | _ => .int
abbrev wsJ90 : List Cond := u_ws RJ9 TJ9 0
theorem nmJ9 : ∀ a, a < 0 → ∀ b, b < 0 → a ≠ b → (TJ9 a).2.1 ≠ (TJ9 b).2.1 := by decide +kernel
theorem tyJ9_ok : ∀ k, k < 0 → parseFieldDescriptor (TJ9 k).2.2.1 = some (tyJ9 k) := by decide +kernel
abbrev cJ9_max_7cf53 : ByteArray := prog_11_method_65_code
def yJ9_max_7cf53 : MethodName := ⟨RJ9, "max", "(II)I"⟩
abbrev cJ9_min_7cf53 : ByteArray := prog_11_method_69_code
def yJ9_min_7cf53 : MethodName := ⟨RJ9, "min", "(II)I"⟩
def RL : String := "RelayTransferLaw"
abbrev cL_cell : ByteArray := method_2_code
def yL_cell : MethodName := ⟨RL, "cell", "([II)I"⟩
abbrev cL_low : ByteArray := method_3_code
def yL_low : MethodName := ⟨RL, "low", "(II)I"⟩
abbrev cL_change : ByteArray := method_4_code
def yL_change : MethodName := ⟨RL, "change", "(LRelayTransfer;II)I"⟩
abbrev cL_size : ByteArray := method_5_code
def yL_size : MethodName := ⟨RL, "size", "(I)I"⟩
abbrev cL_value : ByteArray := method_6_code
def yL_value : MethodName := ⟨RL, "value", "(LRelayTransfer;I)I"⟩
abbrev cL_isList : ByteArray := method_7_code
def yL_isList : MethodName := ⟨RL, "isList", "(LRelayTransfer;I)Z"⟩
abbrev cL_isReceiver : ByteArray := method_8_code
def yL_isReceiver : MethodName := ⟨RL, "isReceiver", "(LRelayTransfer;)Z"⟩
abbrev cL_isForetold : ByteArray := method_9_code
def yL_isForetold : MethodName := ⟨RL, "isForetold", "(LRelayTransfer;I)Z"⟩
abbrev cL_areAlike : ByteArray := method_10_code
def yL_areAlike : MethodName := ⟨RL, "areAlike", "(LRelayTransfer;LRelayTransfer;)Z"⟩
abbrev cL_law : ByteArray := code
def yL_law : MethodName := ⟨RL, "law", "([I)Z"⟩
