-- ===== PART A: goes FIRST, ahead of the names: the tables' words, and 'selects' of the private methods out of them =====
/-- a private method of a class that the tables say can be made, by its rows of tables_1 -/
def lw_okq (q : MethodName × Nat) : Prop := (q.1.cls ≠ "java/lang/invoke/MethodHandle" ∧ q.1.cls ≠ "java/lang/invoke/VarHandle") ∧ Cond.instantiable q.1.cls q.2 ∈ tables_1 ∧ Cond.privateMethod q.1 ∈ tables_1 ∧ Cond.instanceMethod q.1 ∈ tables_1
theorem lw_p0 : lw_okq (⟨"FieldPumps", "remember", "()V"⟩, 5) := ⟨⟨by decide +kernel, by decide +kernel⟩, List.mem_of_getElem? (i := 11) (by decide +kernel), List.mem_of_getElem? (i := 291) (by decide +kernel), List.mem_of_getElem? (i := 292) (by decide +kernel)⟩
theorem lw_p1 : lw_okq (⟨"FieldPumps$Station", "stop", "(I)Z"⟩, 17) := ⟨⟨by decide +kernel, by decide +kernel⟩, List.mem_of_getElem? (i := 19) (by decide +kernel), List.mem_of_getElem? (i := 411) (by decide +kernel), List.mem_of_getElem? (i := 412) (by decide +kernel)⟩
theorem lw_p2 : lw_okq (⟨"FieldPumps$Pumps", "nextVariable", "()I"⟩, 10) := ⟨⟨by decide +kernel, by decide +kernel⟩, List.mem_of_getElem? (i := 34) (by decide +kernel), List.mem_of_getElem? (i := 424) (by decide +kernel), List.mem_of_getElem? (i := 425) (by decide +kernel)⟩
theorem lw_p3 : lw_okq (⟨"FieldPumps$Station", "goOnIfFilled", "()V"⟩, 17) := ⟨⟨by decide +kernel, by decide +kernel⟩, List.mem_of_getElem? (i := 19) (by decide +kernel), List.mem_of_getElem? (i := 444) (by decide +kernel), List.mem_of_getElem? (i := 445) (by decide +kernel)⟩
theorem lw_p4 : lw_okq (⟨"FieldPumps$Station", "moveWater", "()V"⟩, 17) := ⟨⟨by decide +kernel, by decide +kernel⟩, List.mem_of_getElem? (i := 19) (by decide +kernel), List.mem_of_getElem? (i := 461) (by decide +kernel), List.mem_of_getElem? (i := 462) (by decide +kernel)⟩
theorem lw_p5 : lw_okq (⟨"FieldPumps$Station", "watchNight", "()V"⟩, 17) := ⟨⟨by decide +kernel, by decide +kernel⟩, List.mem_of_getElem? (i := 19) (by decide +kernel), List.mem_of_getElem? (i := 493) (by decide +kernel), List.mem_of_getElem? (i := 494) (by decide +kernel)⟩
theorem lw_p6 : lw_okq (⟨"FieldPumps$Nights", "middle", "()I"⟩, 4) := ⟨⟨by decide +kernel, by decide +kernel⟩, List.mem_of_getElem? (i := 120) (by decide +kernel), List.mem_of_getElem? (i := 501) (by decide +kernel), List.mem_of_getElem? (i := 502) (by decide +kernel)⟩
theorem lw_p7 : lw_okq (⟨"FieldPumps$Station", "watchLevel", "()V"⟩, 17) := ⟨⟨by decide +kernel, by decide +kernel⟩, List.mem_of_getElem? (i := 19) (by decide +kernel), List.mem_of_getElem? (i := 510) (by decide +kernel), List.mem_of_getElem? (i := 511) (by decide +kernel)⟩
theorem lw_p8 : lw_okq (⟨"FieldPumps$Station", "beginMinutesAnew", "()V"⟩, 17) := ⟨⟨by decide +kernel, by decide +kernel⟩, List.mem_of_getElem? (i := 19) (by decide +kernel), List.mem_of_getElem? (i := 514) (by decide +kernel), List.mem_of_getElem? (i := 515) (by decide +kernel)⟩
theorem lw_p9 : lw_okq (⟨"FieldPumps$Station", "adjustSpeed", "()V"⟩, 17) := ⟨⟨by decide +kernel, by decide +kernel⟩, List.mem_of_getElem? (i := 19) (by decide +kernel), List.mem_of_getElem? (i := 518) (by decide +kernel), List.mem_of_getElem? (i := 519) (by decide +kernel)⟩
theorem lw_p10 : lw_okq (⟨"FieldPumps$Station", "wake", "()V"⟩, 17) := ⟨⟨by decide +kernel, by decide +kernel⟩, List.mem_of_getElem? (i := 19) (by decide +kernel), List.mem_of_getElem? (i := 526) (by decide +kernel), List.mem_of_getElem? (i := 527) (by decide +kernel)⟩
theorem lw_p11 : lw_okq (⟨"FieldPumps$Pumps", "isReady", "(I)Z"⟩, 10) := ⟨⟨by decide +kernel, by decide +kernel⟩, List.mem_of_getElem? (i := 34) (by decide +kernel), List.mem_of_getElem? (i := 539) (by decide +kernel), List.mem_of_getElem? (i := 540) (by decide +kernel)⟩
theorem lw_p12 : lw_okq (⟨"FieldPumps$Pumps", "readyAhead", "(IZ)I"⟩, 10) := ⟨⟨by decide +kernel, by decide +kernel⟩, List.mem_of_getElem? (i := 34) (by decide +kernel), List.mem_of_getElem? (i := 543) (by decide +kernel), List.mem_of_getElem? (i := 544) (by decide +kernel)⟩
theorem lw_p13 : lw_okq (⟨"FieldPumps$Pumps", "isAhead", "(IIZ)Z"⟩, 10) := ⟨⟨by decide +kernel, by decide +kernel⟩, List.mem_of_getElem? (i := 34) (by decide +kernel), List.mem_of_getElem? (i := 547) (by decide +kernel), List.mem_of_getElem? (i := 548) (by decide +kernel)⟩
theorem lw_p14 : lw_okq (⟨"FieldPumps$Station", "start", "(II)V"⟩, 17) := ⟨⟨by decide +kernel, by decide +kernel⟩, List.mem_of_getElem? (i := 19) (by decide +kernel), List.mem_of_getElem? (i := 551) (by decide +kernel), List.mem_of_getElem? (i := 552) (by decide +kernel)⟩
theorem lw_p15 : lw_okq (⟨"FieldPumps$Station", "countMinutes", "()V"⟩, 17) := ⟨⟨by decide +kernel, by decide +kernel⟩, List.mem_of_getElem? (i := 19) (by decide +kernel), List.mem_of_getElem? (i := 559) (by decide +kernel), List.mem_of_getElem? (i := 560) (by decide +kernel)⟩
def lw_privs_1 : List (MethodName × Nat) := [(⟨"FieldPumps", "remember", "()V"⟩, 5), (⟨"FieldPumps$Station", "stop", "(I)Z"⟩, 17), (⟨"FieldPumps$Pumps", "nextVariable", "()I"⟩, 10), (⟨"FieldPumps$Station", "goOnIfFilled", "()V"⟩, 17), (⟨"FieldPumps$Station", "moveWater", "()V"⟩, 17), (⟨"FieldPumps$Station", "watchNight", "()V"⟩, 17), (⟨"FieldPumps$Nights", "middle", "()I"⟩, 4), (⟨"FieldPumps$Station", "watchLevel", "()V"⟩, 17), (⟨"FieldPumps$Station", "beginMinutesAnew", "()V"⟩, 17), (⟨"FieldPumps$Station", "adjustSpeed", "()V"⟩, 17), (⟨"FieldPumps$Station", "wake", "()V"⟩, 17), (⟨"FieldPumps$Pumps", "isReady", "(I)Z"⟩, 10), (⟨"FieldPumps$Pumps", "readyAhead", "(IZ)I"⟩, 10), (⟨"FieldPumps$Pumps", "isAhead", "(IIZ)Z"⟩, 10), (⟨"FieldPumps$Station", "start", "(II)V"⟩, 17), (⟨"FieldPumps$Station", "countMinutes", "()V"⟩, 17)]
theorem lw_r1 : ∀ q ∈ lw_privs_1, lw_okq q := List.forall_mem_cons.mpr ⟨lw_p0, List.forall_mem_cons.mpr ⟨lw_p1, List.forall_mem_cons.mpr ⟨lw_p2, List.forall_mem_cons.mpr ⟨lw_p3, List.forall_mem_cons.mpr ⟨lw_p4, List.forall_mem_cons.mpr ⟨lw_p5, List.forall_mem_cons.mpr ⟨lw_p6, List.forall_mem_cons.mpr ⟨lw_p7, List.forall_mem_cons.mpr ⟨lw_p8, List.forall_mem_cons.mpr ⟨lw_p9, List.forall_mem_cons.mpr ⟨lw_p10, List.forall_mem_cons.mpr ⟨lw_p11, List.forall_mem_cons.mpr ⟨lw_p12, List.forall_mem_cons.mpr ⟨lw_p13, List.forall_mem_cons.mpr ⟨lw_p14, List.forall_mem_cons.mpr ⟨lw_p15, fun _ h => absurd h List.not_mem_nil⟩⟩⟩⟩⟩⟩⟩⟩⟩⟩⟩⟩⟩⟩⟩⟩
theorem lw_p16 : lw_okq (⟨"FieldPumps$Station", "cascade", "()V"⟩, 17) := ⟨⟨by decide +kernel, by decide +kernel⟩, List.mem_of_getElem? (i := 19) (by decide +kernel), List.mem_of_getElem? (i := 567) (by decide +kernel), List.mem_of_getElem? (i := 568) (by decide +kernel)⟩
theorem lw_p17 : lw_okq (⟨"FieldPumps$Station", "rotate", "()V"⟩, 17) := ⟨⟨by decide +kernel, by decide +kernel⟩, List.mem_of_getElem? (i := 19) (by decide +kernel), List.mem_of_getElem? (i := 575) (by decide +kernel), List.mem_of_getElem? (i := 576) (by decide +kernel)⟩
def lw_privs_2 : List (MethodName × Nat) := [(⟨"FieldPumps$Station", "cascade", "()V"⟩, 17), (⟨"FieldPumps$Station", "rotate", "()V"⟩, 17)]
theorem lw_r2 : ∀ q ∈ lw_privs_2, lw_okq q := List.forall_mem_cons.mpr ⟨lw_p16, List.forall_mem_cons.mpr ⟨lw_p17, fun _ h => absurd h List.not_mem_nil⟩⟩
def lw_privs : List (MethodName × Nat) := lw_privs_1 ++ (lw_privs_2)
def lw_tbl : List Cond := k2_sels lw_privs ++ tables_1
theorem lw_privs_ok : ∀ q ∈ lw_privs, lw_okq q := by
  show ∀ q ∈ lw_privs_1 ++ (lw_privs_2), lw_okq q
  exact List.forall_mem_append.mpr ⟨lw_r1, lw_r2⟩
def RX0 : String := "FieldPumps$Events"
def TX0 : u_T := fun k => match k with
  | 0 => ("FieldPumps$Events", "kinds", "[I", true)
  | 1 => ("FieldPumps$Events", "times", "[I", true)
  | 2 => ("FieldPumps$Events", "pumps", "[I", true)
  | 3 => ("FieldPumps$Events", "latestTimes", "[I", true)
  | _ => ("FieldPumps$Events", "all", "I", false)
def tyX0 : Nat → FieldType := fun k => match k with
  | 0 => .array .int
  | 1 => .array .int
  | 2 => .array .int
  | 3 => .array .int
  | _ => .int
abbrev wsX00 : List Cond := u_ws RX0 TX0 5
theorem nmX0 : ∀ a, a < 5 → ∀ b, b < 5 → a ≠ b → (TX0 a).2.1 ≠ (TX0 b).2.1 := by decide +kernel
theorem tyX0_ok : ∀ k, k < 5 → parseFieldDescriptor (TX0 k).2.2.1 = some (tyX0 k) := by decide +kernel
abbrev cX0_init : ByteArray := prog_2_method_1_code
def yX0_init : MethodName := ⟨RX0, "<init>", "()V"⟩
abbrev cX0_copyFrom : ByteArray := prog_2_method_2_code
def yX0_copyFrom : MethodName := ⟨RX0, "copyFrom", "(LFieldPumps$Events;)V"⟩
abbrev cX0_add : ByteArray := prog_2_method_3_code
def yX0_add : MethodName := ⟨RX0, "add", "(III)V"⟩
abbrev cX0_kept : ByteArray := prog_2_method_4_code
def yX0_kept : MethodName := ⟨RX0, "kept", "()I"⟩
abbrev cX0_rowOf : ByteArray := prog_2_method_5_code
def yX0_rowOf : MethodName := ⟨RX0, "rowOf", "(I)I"⟩
def RX1 : String := "FieldPumps$Nights"
def TX1 : u_T := fun k => match k with
  | 0 => ("FieldPumps$Nights", "noted", "[I", true)
  | 1 => ("FieldPumps$Nights", "size", "I", false)
  | 2 => ("FieldPumps$Nights", "flow", "I", false)
  | _ => ("FieldPumps$Nights", "alarms", "I", false)
def tyX1 : Nat → FieldType := fun k => match k with
  | 0 => .array .int
  | 1 => .int
  | 2 => .int
  | _ => .int
abbrev wsX10 : List Cond := u_ws RX1 TX1 4
theorem nmX1 : ∀ a, a < 4 → ∀ b, b < 4 → a ≠ b → (TX1 a).2.1 ≠ (TX1 b).2.1 := by decide +kernel
theorem tyX1_ok : ∀ k, k < 4 → parseFieldDescriptor (TX1 k).2.2.1 = some (tyX1 k) := by decide +kernel
abbrev cX1_init : ByteArray := prog_3_method_1_code
def yX1_init : MethodName := ⟨RX1, "<init>", "()V"⟩
abbrev cX1_copyFrom : ByteArray := prog_3_method_2_code
def yX1_copyFrom : MethodName := ⟨RX1, "copyFrom", "(LFieldPumps$Nights;)V"⟩
abbrev cX1_tellLeak : ByteArray := prog_3_method_4_code
def yX1_tellLeak : MethodName := ⟨RX1, "tellLeak", "(I)Z"⟩
abbrev cX1_middle : ByteArray := prog_3_method_5_code
def yX1_middle : MethodName := ⟨RX1, "middle", "()I"⟩
abbrev cX1_note : ByteArray := prog_3_method_6_code
def yX1_note : MethodName := ⟨RX1, "note", "()V"⟩
def RX2 : String := "FieldPumps$Orders"
def TX2 : u_T := fun k => match k with
  | 0 => ("FieldPumps$Orders", "text", "[C", true)
  | 1 => ("FieldPumps$Orders", "length", "I", false)
  | 2 => ("FieldPumps$Orders", "place", "I", false)
  | 3 => ("FieldPumps$Orders", "behind", "I", false)
  | 4 => ("FieldPumps$Orders", "done", "I", false)
  | 5 => ("FieldPumps$Orders", "letter", "C", false)
  | _ => ("FieldPumps$Orders", "number", "I", false)
def tyX2 : Nat → FieldType := fun k => match k with
  | 0 => .array .char
  | 1 => .int
  | 2 => .int
  | 3 => .int
  | 4 => .int
  | 5 => .char
  | _ => .int
abbrev wsX20 : List Cond := u_ws RX2 TX2 7
theorem nmX2 : ∀ a, a < 7 → ∀ b, b < 7 → a ≠ b → (TX2 a).2.1 ≠ (TX2 b).2.1 := by decide +kernel
theorem tyX2_ok : ∀ k, k < 7 → parseFieldDescriptor (TX2 k).2.2.1 = some (tyX2 k) := by decide +kernel
abbrev cX2_init : ByteArray := prog_4_method_1_code
def yX2_init : MethodName := ⟨RX2, "<init>", "()V"⟩
def RX3 : String := "FieldPumps$Pumps"
def TX3 : u_T := fun k => match k with
  | 0 => ("FieldPumps$Pumps", "kinds", "[I", true)
  | 1 => ("FieldPumps$Pumps", "shutoffs", "[I", true)
  | 2 => ("FieldPumps$Pumps", "steeps", "[I", true)
  | 3 => ("FieldPumps$Pumps", "inService", "[Z", true)
  | 4 => ("FieldPumps$Pumps", "speeds", "[I", true)
  | 5 => ("FieldPumps$Pumps", "minutes", "[I", true)
  | 6 => ("FieldPumps$Pumps", "minutesSinceStart", "[I", true)
  | 7 => ("FieldPumps$Pumps", "starts", "[I", true)
  | 8 => ("FieldPumps$Pumps", "size", "I", false)
  | _ => ("FieldPumps$Pumps", "variable", "I", false)
def tyX3 : Nat → FieldType := fun k => match k with
  | 0 => .array .int
  | 1 => .array .int
  | 2 => .array .int
  | 3 => .array .boolean
  | 4 => .array .int
  | 5 => .array .int
  | 6 => .array .int
  | 7 => .array .int
  | 8 => .int
  | _ => .int
abbrev wsX30 : List Cond := u_ws RX3 TX3 10
theorem nmX3 : ∀ a, a < 10 → ∀ b, b < 10 → a ≠ b → (TX3 a).2.1 ≠ (TX3 b).2.1 := by decide +kernel
theorem tyX3_ok : ∀ k, k < 10 → parseFieldDescriptor (TX3 k).2.2.1 = some (tyX3 k) := by decide +kernel
abbrev cX3_init : ByteArray := prog_5_method_1_code
def yX3_init : MethodName := ⟨RX3, "<init>", "()V"⟩
abbrev cX3_copyFrom : ByteArray := prog_5_method_2_code
def yX3_copyFrom : MethodName := ⟨RX3, "copyFrom", "(LFieldPumps$Pumps;)V"⟩
abbrev cX3_add : ByteArray := prog_5_method_3_code
def yX3_add : MethodName := ⟨RX3, "add", "(III)I"⟩
abbrev cX3_has : ByteArray := prog_5_method_4_code
def yX3_has : MethodName := ⟨RX3, "has", "(I)Z"⟩
abbrev cX3_runs : ByteArray := prog_5_method_5_code
def yX3_runs : MethodName := ⟨RX3, "runs", "(I)Z"⟩
abbrev cX3_isReady : ByteArray := prog_5_method_6_code
def yX3_isReady : MethodName := ⟨RX3, "isReady", "(I)Z"⟩
abbrev cX3_hasVariable : ByteArray := prog_5_method_7_code
def yX3_hasVariable : MethodName := ⟨RX3, "hasVariable", "()Z"⟩
abbrev cX3_variableAt : ByteArray := prog_5_method_8_code
def yX3_variableAt : MethodName := ⟨RX3, "variableAt", "(I)Z"⟩
abbrev cX3_running : ByteArray := prog_5_method_9_code
def yX3_running : MethodName := ⟨RX3, "running", "()I"⟩
abbrev cX3_readyOnes : ByteArray := prog_5_method_10_code
def yX3_readyOnes : MethodName := ⟨RX3, "readyOnes", "()I"⟩
abbrev cX3_differenceOfMinutes : ByteArray := prog_5_method_11_code
def yX3_differenceOfMinutes : MethodName := ⟨RX3, "differenceOfMinutes", "()I"⟩
abbrev cX3_flowOf : ByteArray := prog_5_method_12_code
def yX3_flowOf : MethodName := ⟨RX3, "flowOf", "(III)I"⟩
abbrev cX3_flow : ByteArray := prog_5_method_13_code
def yX3_flow : MethodName := ⟨RX3, "flow", "(I)I"⟩
abbrev cX3_root : ByteArray := prog_5_method_14_code
def yX3_root : MethodName := ⟨RX3, "root", "(I)I"⟩
abbrev cX3_countMinute : ByteArray := prog_5_method_15_code
def yX3_countMinute : MethodName := ⟨RX3, "countMinute", "()V"⟩
abbrev cX3_readyInOrder : ByteArray := prog_5_method_16_code
def yX3_readyInOrder : MethodName := ⟨RX3, "readyInOrder", "(I)I"⟩
abbrev cX3_readyAhead : ByteArray := prog_5_method_17_code
def yX3_readyAhead : MethodName := ⟨RX3, "readyAhead", "(IZ)I"⟩
abbrev cX3_isAhead : ByteArray := prog_5_method_18_code
def yX3_isAhead : MethodName := ⟨RX3, "isAhead", "(IIZ)Z"⟩
abbrev cX3_start : ByteArray := prog_5_method_19_code
def yX3_start : MethodName := ⟨RX3, "start", "(II)V"⟩
abbrev cX3_stop : ByteArray := prog_5_method_20_code
def yX3_stop : MethodName := ⟨RX3, "stop", "(I)V"⟩
abbrev cX3_nextVariable : ByteArray := prog_5_method_21_code
def yX3_nextVariable : MethodName := ⟨RX3, "nextVariable", "()I"⟩
abbrev cX3_nextToStop : ByteArray := prog_5_method_22_code
def yX3_nextToStop : MethodName := ⟨RX3, "nextToStop", "()I"⟩
abbrev cX3_nextInRotation : ByteArray := prog_5_method_23_code
def yX3_nextInRotation : MethodName := ⟨RX3, "nextInRotation", "()I"⟩
def RX4 : String := "FieldPumps$Station"
def TX4 : u_T := fun k => match k with
  | 0 => ("FieldPumps$Station", "settings", "[I", true)
  | 1 => ("FieldPumps$Station", "pumps", "LFieldPumps$Pumps;", true)
  | 2 => ("FieldPumps$Station", "zones", "LFieldPumps$Zones;", true)
  | 3 => ("FieldPumps$Station", "nights", "LFieldPumps$Nights;", true)
  | 4 => ("FieldPumps$Station", "events", "LFieldPumps$Events;", true)
  | 5 => ("FieldPumps$Station", "time", "I", false)
  | 6 => ("FieldPumps$Station", "pressure", "I", false)
  | 7 => ("FieldPumps$Station", "level", "I", false)
  | 8 => ("FieldPumps$Station", "leak", "I", false)
  | 9 => ("FieldPumps$Station", "supply", "I", false)
  | 10 => ("FieldPumps$Station", "allSupplied", "I", false)
  | 11 => ("FieldPumps$Station", "dry", "Z", false)
  | 12 => ("FieldPumps$Station", "dryMinutes", "I", false)
  | 13 => ("FieldPumps$Station", "trips", "I", false)
  | 14 => ("FieldPumps$Station", "minutesToStart", "I", false)
  | 15 => ("FieldPumps$Station", "minutesToStop", "I", false)
  | _ => ("FieldPumps$Station", "minutesToSleep", "I", false)
def tyX4 : Nat → FieldType := fun k => match k with
  | 0 => .array .int
  | 1 => .object "FieldPumps$Pumps"
  | 2 => .object "FieldPumps$Zones"
  | 3 => .object "FieldPumps$Nights"
  | 4 => .object "FieldPumps$Events"
  | 5 => .int
  | 6 => .int
  | 7 => .int
  | 8 => .int
  | 9 => .int
  | 10 => .int
  | 11 => .boolean
  | 12 => .int
  | 13 => .int
  | 14 => .int
  | 15 => .int
  | _ => .int
abbrev wsX40 : List Cond := u_ws RX4 TX4 17
theorem nmX4 : ∀ a, a < 17 → ∀ b, b < 17 → a ≠ b → (TX4 a).2.1 ≠ (TX4 b).2.1 := by decide +kernel
theorem tyX4_ok : ∀ k, k < 17 → parseFieldDescriptor (TX4 k).2.2.1 = some (tyX4 k) := by decide +kernel
abbrev cX4_init : ByteArray := prog_6_method_1_code
def yX4_init : MethodName := ⟨RX4, "<init>", "()V"⟩
abbrev cX4_copyFrom : ByteArray := prog_6_method_2_code
def yX4_copyFrom : MethodName := ⟨RX4, "copyFrom", "(LFieldPumps$Station;)V"⟩
abbrev cX4_demand : ByteArray := prog_6_method_3_code
def yX4_demand : MethodName := ⟨RX4, "demand", "()I"⟩
abbrev cX4_runMinute : ByteArray := prog_6_method_4_code
def yX4_runMinute : MethodName := ⟨RX4, "runMinute", "()V"⟩
abbrev cX4_moveWater : ByteArray := prog_6_method_5_code
def yX4_moveWater : MethodName := ⟨RX4, "moveWater", "()V"⟩
abbrev cX4_watchNight : ByteArray := prog_6_method_6_code
def yX4_watchNight : MethodName := ⟨RX4, "watchNight", "()V"⟩
abbrev cX4_watchLevel : ByteArray := prog_6_method_7_code
def yX4_watchLevel : MethodName := ⟨RX4, "watchLevel", "()V"⟩
abbrev cX4_goOnIfFilled : ByteArray := prog_6_method_8_code
def yX4_goOnIfFilled : MethodName := ⟨RX4, "goOnIfFilled", "()V"⟩
abbrev cX4_forgetTrips : ByteArray := prog_6_method_9_code
def yX4_forgetTrips : MethodName := ⟨RX4, "forgetTrips", "()V"⟩
abbrev cX4_changeService : ByteArray := prog_6_method_10_code
def yX4_changeService : MethodName := ⟨RX4, "changeService", "(IZ)Z"⟩
abbrev cX4_start : ByteArray := prog_6_method_11_code
def yX4_start : MethodName := ⟨RX4, "start", "(II)V"⟩
abbrev cX4_stop : ByteArray := prog_6_method_12_code
def yX4_stop : MethodName := ⟨RX4, "stop", "(I)Z"⟩
abbrev cX4_adjustSpeed : ByteArray := prog_6_method_13_code
def yX4_adjustSpeed : MethodName := ⟨RX4, "adjustSpeed", "()V"⟩
abbrev cX4_wake : ByteArray := prog_6_method_14_code
def yX4_wake : MethodName := ⟨RX4, "wake", "()V"⟩
abbrev cX4_beginMinutesAnew : ByteArray := prog_6_method_15_code
def yX4_beginMinutesAnew : MethodName := ⟨RX4, "beginMinutesAnew", "()V"⟩
abbrev cX4_countMinutes : ByteArray := prog_6_method_16_code
def yX4_countMinutes : MethodName := ⟨RX4, "countMinutes", "()V"⟩
abbrev cX4_cascade : ByteArray := prog_6_method_17_code
def yX4_cascade : MethodName := ⟨RX4, "cascade", "()V"⟩
abbrev cX4_rotate : ByteArray := prog_6_method_18_code
def yX4_rotate : MethodName := ⟨RX4, "rotate", "()V"⟩
def RX5 : String := "FieldPumps$Zones"
def TX5 : u_T := fun k => match k with
  | 0 => ("FieldPumps$Zones", "demands", "[I", true)
  | 1 => ("FieldPumps$Zones", "isOpen", "[Z", true)
  | 2 => ("FieldPumps$Zones", "size", "I", false)
  | 3 => ("FieldPumps$Zones", "programmeZones", "[I", true)
  | 4 => ("FieldPumps$Zones", "opening", "[I", true)
  | 5 => ("FieldPumps$Zones", "closing", "[I", true)
  | _ => ("FieldPumps$Zones", "programmes", "I", false)
def tyX5 : Nat → FieldType := fun k => match k with
  | 0 => .array .int
  | 1 => .array .boolean
  | 2 => .int
  | 3 => .array .int
  | 4 => .array .int
  | 5 => .array .int
  | _ => .int
abbrev wsX50 : List Cond := u_ws RX5 TX5 7
theorem nmX5 : ∀ a, a < 7 → ∀ b, b < 7 → a ≠ b → (TX5 a).2.1 ≠ (TX5 b).2.1 := by decide +kernel
theorem tyX5_ok : ∀ k, k < 7 → parseFieldDescriptor (TX5 k).2.2.1 = some (tyX5 k) := by decide +kernel
abbrev cX5_init : ByteArray := prog_7_method_1_code
def yX5_init : MethodName := ⟨RX5, "<init>", "()V"⟩
abbrev cX5_copyFrom : ByteArray := prog_7_method_2_code
def yX5_copyFrom : MethodName := ⟨RX5, "copyFrom", "(LFieldPumps$Zones;)V"⟩
abbrev cX5_add : ByteArray := prog_7_method_3_code
def yX5_add : MethodName := ⟨RX5, "add", "(I)I"⟩
abbrev cX5_addProgramme : ByteArray := prog_7_method_4_code
def yX5_addProgramme : MethodName := ⟨RX5, "addProgramme", "(III)I"⟩
abbrev cX5_has : ByteArray := prog_7_method_5_code
def yX5_has : MethodName := ⟨RX5, "has", "(I)Z"⟩
abbrev cX5_openOnes : ByteArray := prog_7_method_6_code
def yX5_openOnes : MethodName := ⟨RX5, "openOnes", "()I"⟩
abbrev cX5_programmesOf : ByteArray := prog_7_method_7_code
def yX5_programmesOf : MethodName := ⟨RX5, "programmesOf", "(I)I"⟩
abbrev cX5_takenBy : ByteArray := prog_7_method_8_code
def yX5_takenBy : MethodName := ⟨RX5, "takenBy", "(II)I"⟩
abbrev cX5_taken : ByteArray := prog_7_method_9_code
def yX5_taken : MethodName := ⟨RX5, "taken", "(I)I"⟩
abbrev cX5_keepProgrammes : ByteArray := prog_7_method_10_code
def yX5_keepProgrammes : MethodName := ⟨RX5, "keepProgrammes", "(I)V"⟩
def RX6 : String := "FieldPumps"
def TX6 : u_T := fun k => match k with
  | 0 => ("FieldPumps", "now", "LFieldPumps$Station;", true)
  | 1 => ("FieldPumps", "trial", "LFieldPumps$Station;", true)
  | 2 => ("FieldPumps", "history", "[LFieldPumps$Station;", true)
  | 3 => ("FieldPumps", "states", "I", false)
  | _ => ("FieldPumps", "orders", "LFieldPumps$Orders;", true)
def tyX6 : Nat → FieldType := fun k => match k with
  | 0 => .object "FieldPumps$Station"
  | 1 => .object "FieldPumps$Station"
  | 2 => .array (.object "FieldPumps$Station")
  | 3 => .int
  | _ => .object "FieldPumps$Orders"
abbrev wsX60 : List Cond := u_ws RX6 TX6 5
theorem nmX6 : ∀ a, a < 5 → ∀ b, b < 5 → a ≠ b → (TX6 a).2.1 ≠ (TX6 b).2.1 := by decide +kernel
theorem tyX6_ok : ∀ k, k < 5 → parseFieldDescriptor (TX6 k).2.2.1 = some (tyX6 k) := by decide +kernel
abbrev cX6_init : ByteArray := prog_1_method_1_code
def yX6_init : MethodName := ⟨RX6, "<init>", "()V"⟩
abbrev cX6_set : ByteArray := prog_1_method_2_code
def yX6_set : MethodName := ⟨RX6, "set", "(II)I"⟩
abbrev cX6_pump : ByteArray := prog_1_method_3_code
def yX6_pump : MethodName := ⟨RX6, "pump", "(III)I"⟩
abbrev cX6_service : ByteArray := prog_1_method_4_code
def yX6_service : MethodName := ⟨RX6, "service", "(II)I"⟩
abbrev cX6_pumpOf : ByteArray := prog_1_method_5_code
def yX6_pumpOf : MethodName := ⟨RX6, "pumpOf", "(II)I"⟩
abbrev cX6_readyAt : ByteArray := prog_1_method_7_code
def yX6_readyAt : MethodName := ⟨RX6, "readyAt", "(I)I"⟩
abbrev cX6_balance : ByteArray := prog_1_method_8_code
def yX6_balance : MethodName := ⟨RX6, "balance", "()I"⟩
abbrev cX6_zone : ByteArray := prog_1_method_9_code
def yX6_zone : MethodName := ⟨RX6, "zone", "(I)I"⟩
abbrev cX6_open : ByteArray := prog_1_method_10_code
def yX6_open : MethodName := ⟨RX6, "open", "(II)I"⟩
abbrev cX6_leak : ByteArray := prog_1_method_11_code
def yX6_leak : MethodName := ⟨RX6, "leak", "(I)I"⟩
abbrev cX6_programme : ByteArray := prog_1_method_12_code
def yX6_programme : MethodName := ⟨RX6, "programme", "(III)I"⟩
abbrev cX6_zoneOf : ByteArray := prog_1_method_13_code
def yX6_zoneOf : MethodName := ⟨RX6, "zoneOf", "(II)I"⟩
abbrev cX6_fill : ByteArray := prog_1_method_14_code
def yX6_fill : MethodName := ⟨RX6, "fill", "(I)I"⟩
abbrev cX6_reset : ByteArray := prog_1_method_15_code
def yX6_reset : MethodName := ⟨RX6, "reset", "()I"⟩
abbrev cX6_pass : ByteArray := prog_1_method_16_code
def yX6_pass : MethodName := ⟨RX6, "pass", "(I)I"⟩
abbrev cX6_foresee : ByteArray := prog_1_method_17_code
def yX6_foresee : MethodName := ⟨RX6, "foresee", "(II)I"⟩
abbrev cX6_station : ByteArray := prog_1_method_19_code
def yX6_station : MethodName := ⟨RX6, "station", "(I)I"⟩
abbrev cX6_eventAt : ByteArray := prog_1_method_21_code
def yX6_eventAt : MethodName := ⟨RX6, "eventAt", "(II)I"⟩
abbrev cX6_count : ByteArray := prog_1_method_22_code
def yX6_count : MethodName := ⟨RX6, "count", "(I)I"⟩
abbrev cX6_undo : ByteArray := prog_1_method_23_code
def yX6_undo : MethodName := ⟨RX6, "undo", "()I"⟩
abbrev cX6_remember : ByteArray := prog_1_method_33_code
def yX6_remember : MethodName := ⟨RX6, "remember", "()V"⟩
abbrev cX6_within : ByteArray := prog_1_method_34_code
def yX6_within : MethodName := ⟨RX6, "within", "(III)Z"⟩
abbrev cX6_hold : ByteArray := prog_1_method_35_code
def yX6_hold : MethodName := ⟨RX6, "hold", "(III)I"⟩
def RX7 : String := "FieldPumpsModel"
def TX7 : u_T := fun k => match k with
  | _ => ("", "", "", false)
def tyX7 : Nat → FieldType := fun k => match k with
  | _ => .int
abbrev wsX70 : List Cond := u_ws RX7 TX7 0
theorem nmX7 : ∀ a, a < 0 → ∀ b, b < 0 → a ≠ b → (TX7 a).2.1 ≠ (TX7 b).2.1 := by decide +kernel
theorem tyX7_ok : ∀ k, k < 0 → parseFieldDescriptor (TX7 k).2.2.1 = some (tyX7 k) := by decide +kernel
def RJx8e188 : String := "java/lang/Cloneable"
def TJx8e188 : u_T := fun k => match k with
  | _ => ("", "", "", false)
def tyJx8e188 : Nat → FieldType := fun k => match k with
  | _ => .int
abbrev wsJx8e1880 : List Cond := u_ws RJx8e188 TJx8e188 0
theorem nmJx8e188 : ∀ a, a < 0 → ∀ b, b < 0 → a ≠ b → (TJx8e188 a).2.1 ≠ (TJx8e188 b).2.1 := by decide +kernel
theorem tyJx8e188_ok : ∀ k, k < 0 → parseFieldDescriptor (TJx8e188 k).2.2.1 = some (tyJx8e188 k) := by decide +kernel
def RJ9 : String := "java/lang/Math"
def TJ9 : u_T := fun k => match k with
  | _ => ("", "", "", false)
def tyJ9 : Nat → FieldType := fun k => match k with
  | _ => .int
abbrev wsJ90 : List Cond := u_ws RJ9 TJ9 0
theorem nmJ9 : ∀ a, a < 0 → ∀ b, b < 0 → a ≠ b → (TJ9 a).2.1 ≠ (TJ9 b).2.1 := by decide +kernel
theorem tyJ9_ok : ∀ k, k < 0 → parseFieldDescriptor (TJ9 k).2.2.1 = some (tyJ9 k) := by decide +kernel
abbrev cJ9_max_7cf53 : ByteArray := prog_11_method_65_code
def yJ9_max_7cf53 : MethodName := ⟨RJ9, "max", "(II)I"⟩
abbrev cJ9_min_7cf53 : ByteArray := prog_11_method_69_code
def yJ9_min_7cf53 : MethodName := ⟨RJ9, "min", "(II)I"⟩
def RJ10 : String := "java/lang/System"
def TJ10 : u_T := fun k => match k with
  | _ => ("", "", "", false)
def tyJ10 : Nat → FieldType := fun k => match k with
  | _ => .int
abbrev wsJ100 : List Cond := u_ws RJ10 TJ10 0
theorem nmJ10 : ∀ a, a < 0 → ∀ b, b < 0 → a ≠ b → (TJ10 a).2.1 ≠ (TJ10 b).2.1 := by decide +kernel
theorem tyJ10_ok : ∀ k, k < 0 → parseFieldDescriptor (TJ10 k).2.2.1 = some (tyJ10 k) := by decide +kernel
def RL : String := "FieldPumpsLaw"
abbrev cL_cell : ByteArray := method_2_code
def yL_cell : MethodName := ⟨RL, "cell", "([II)I"⟩
abbrev cL_up : ByteArray := method_3_code
def yL_up : MethodName := ⟨RL, "up", "(II)I"⟩
abbrev cL_isStep : ByteArray := method_4_code
def yL_isStep : MethodName := ⟨RL, "isStep", "(LFieldPumps;LFieldPumps;I)Z"⟩
abbrev cL_areAlike : ByteArray := method_5_code
def yL_areAlike : MethodName := ⟨RL, "areAlike", "(LFieldPumps;LFieldPumps;)Z"⟩
abbrev cL_isSound : ByteArray := method_6_code
def yL_isSound : MethodName := ⟨RL, "isSound", "(LFieldPumps;)Z"⟩
abbrev cL_isMinute : ByteArray := method_7_code
def yL_isMinute : MethodName := ⟨RL, "isMinute", "(LFieldPumps;)Z"⟩
abbrev cL_law : ByteArray := code
def yL_law : MethodName := ⟨RL, "law", "([I)Z"⟩
