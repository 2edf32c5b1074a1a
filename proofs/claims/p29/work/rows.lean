section
-- ===== PART A: goes FIRST, ahead of the names: the tables' words, and 'selects' of the private methods out of them =====
/-- a private method of a class that the tables say can be made, by its rows of tables_1 -/
def lw_okq (q : MethodName × Nat) : Prop := (q.1.cls ≠ "java/lang/invoke/MethodHandle" ∧ q.1.cls ≠ "java/lang/invoke/VarHandle") ∧ Cond.instantiable q.1.cls q.2 ∈ tables_1 ∧ Cond.privateMethod q.1 ∈ tables_1 ∧ Cond.instanceMethod q.1 ∈ tables_1
theorem lw_p0 : lw_okq (⟨"FieldPumps", "remember", "()V"⟩, 5) := ⟨⟨by decide +kernel, by decide +kernel⟩, List.mem_of_getElem? (i := 11) (by decide +kernel), List.mem_of_getElem? (i := 291) (by decide +kernel), List.mem_of_getElem? (i := 292) (by decide +kernel)⟩
theorem lw_p1 : lw_okq (⟨"FieldPumps$Station", "stop", "(I)Z"⟩, 17) := ⟨⟨by decide +kernel, by decide +kernel⟩, List.mem_of_getElem? (i := 19) (by decide +kernel), List.mem_of_getElem? (i := 411) (by decide +kernel), List.mem_of_getElem? (i := 412) (by decide +kernel)⟩
theorem lw_p2 : lw_okq (⟨"FieldPumps$Pumps", "nextVariable", "()I"⟩, 10) := ⟨⟨by decide +kernel, by decide +kernel⟩, List.mem_of_getElem? (i := 34) (by decide +kernel), List.mem_of_getElem? (i := 424) (by decide +kernel), List.mem_of_getElem? (i := 425) (by decide +kernel)⟩
theorem lw_p3 : lw_okq (⟨"FieldPumps$Station", "goOnIfFilled", "()V"⟩, 17) := ⟨⟨by decide +kernel, by decide +kernel⟩, List.mem_of_getElem? (i := 19) (by decide +kernel), List.mem_of_getElem? (i := 444) (by decide +kernel), List.mem_of_getElem? (i := 445) (by decide +kernel)⟩
theorem lw_p4 : lw_okq (⟨"FieldPumps$Station", "moveWater", "()V"⟩, 17) := ⟨⟨by decide +kernel, by decide +kernel⟩, List.mem_of_getElem? (i := 19) (by decide +kernel), List.mem_of_getElem? (i := 461) (by decide +kernel), List.mem_of_getElem? (i := 462) (by decide +kernel)⟩
theorem lw_p5 : lw_okq (⟨"FieldPumps$Station", "watchNight", "()V"⟩, 17) := ⟨⟨by decide +kernel, by decide +kernel⟩, List.mem_of_getElem? (i := 19) (by decide +kernel), List.mem_of_getElem? (i := 493) (by decide +kernel), List.mem_of_getElem? (i := 494) (by decide +kernel)⟩
theorem lw_p6 : lw_okq (⟨"FieldPumps$Nights", "middle", "()I"⟩, 4) := ⟨⟨by decide +kernel, by decide +kernel⟩, List.mem_of_getElem? (i := 120) (by decide +kernel), List.mem_of_getElem? (i := 501) (by decide +kernel), List.mem_of_getElem? (i := 502) (by decide +kernel)⟩
theorem lw_p7 : lw_okq (⟨"FieldPumps$Station", "watchLevel", "()V"⟩, 17) := ⟨⟨by decide +kernel, by decide +kernel⟩, List.mem_of_getElem? (i := 19) (by decide +kernel), List.mem_of_getElem? (i := 510) (by decide +kernel), List.mem_of_getElem? (i := 511) (by decide +kernel)⟩
theorem lw_p8 : lw_okq (⟨"FieldPumps$Station", "beginMinutesAnew", "()V"⟩, 17) := ⟨⟨by decide +kernel, by decide +kernel⟩, List.mem_of_getElem? (i := 19) (by decide +kernel), List.mem_of_getElem? (i := 514) (by decide +kernel), List.mem_of_getElem? (i := 515) (by decide +kernel)⟩
theorem lw_p9 : lw_okq (⟨"FieldPumps$Station", "adjustSpeed", "()V"⟩, 17) := ⟨⟨by decide +kernel, by decide +kernel⟩, List.mem_of_getElem? (i := 19) (by decide +kernel), List.mem_of_getElem? (i := 518) (by decide +kernel), List.mem_of_getElem? (i := 519) (by decide +kernel)⟩
theorem lw_p10 : lw_okq (⟨"FieldPumps$Station", "wake", "()V"⟩, 17) := ⟨⟨by decide +kernel, by decide +kernel⟩, List.mem_of_getElem? (i := 19) (by decide +kernel), List.mem_of_getElem? (i := 526) (by decide +kernel), List.mem_of_getElem? (i := 527) (by decide +kernel)⟩
theorem lw_p11 : lw_okq (⟨"FieldPumps$Pumps", "isReady", "(I)Z"⟩, 10) := ⟨⟨by decide +kernel, by decide +kernel⟩, List.mem_of_getElem? (i := 34) (by decide +kernel), List.mem_of_getElem? (i := 539) (by decide +kernel), List.mem_of_getElem? (i := 540) (by decide +kernel)⟩
theorem lw_p12 : lw_okq (⟨"FieldPumps$Pumps", "readyAhead", "(IZ)I"⟩, 10) := ⟨⟨by decide +kernel, by decide +kernel⟩, List.mem_of_getElem? (i := 34) (by decide +kernel), List.mem_of_getElem? (i := 543) (by decide +kernel), List.mem_of_getElem? (i := 544) (by decide +kernel)⟩
theorem lw_p13 : lw_okq (⟨"FieldPumps$Pumps", "isAhead", "(IIZ)Z"⟩, 10) := ⟨⟨by decide +kernel, by decide +kernel⟩, List.mem_of_getElem? (i := 34) (by decide +kernel), List.mem_of_getElem? (i := 547) (by decide +kernel), List.mem_of_getElem? (i := 548) (by decide +kernel)⟩
theorem lw_p14 : lw_okq (⟨"FieldPumps$Station", "start", "(II)V"⟩, 17) := ⟨⟨by decide +kernel, by decide +kernel⟩, List.mem_of_getElem? (i := 19) (by decide +kernel), List.mem_of_getElem? (i := 551) (by decide +kernel), List.mem_of_getElem? (i := 552) (by decide +kernel)⟩
theorem lw_p15 : lw_okq (⟨"FieldPumps$Station", "countMinutes", "()V"⟩, 17) := ⟨⟨by decide +kernel, by decide +kernel⟩, List.mem_of_getElem? (i := 19) (by decide +kernel), List.mem_of_getElem? (i := 559) (by decide +kernel), List.mem_of_getElem? (i := 560) (by decide +kernel)⟩
def lw_privs_1 : List (MethodName × Nat) := [(⟨"FieldPumps", "remember", "()V"⟩, 5), (⟨"FieldPumps$Station", "stop", "(I)Z"⟩, 17), (⟨"FieldPumps$Pumps", "nextVariable", "()I"⟩, 10), (⟨"FieldPumps$Station", "goOnIfFilled", "()V"⟩, 17), (⟨"FieldPumps$Station", "moveWater", "()V"⟩, 17), (⟨"FieldPumps$Station", "watchNight", "()V"⟩, 17), (⟨"FieldPumps$Nights", "middle", "()I"⟩, 4), (⟨"FieldPumps$Station", "watchLevel", "()V"⟩, 17), (⟨"FieldPumps$Station", "beginMinutesAnew", "()V"⟩, 17), (⟨"FieldPumps$Station", "adjustSpeed", "()V"⟩, 17), (⟨"FieldPumps$Station", "wake", "()V"⟩, 17), (⟨"FieldPumps$Pumps", "isReady", "(I)Z"⟩, 10), (⟨"FieldPumps$Pumps", "readyAhead", "(IZ)I"⟩, 10), (⟨"FieldPumps$Pumps", "isAhead", "(IIZ)Z"⟩, 10), (⟨"FieldPumps$Station", "start", "(II)V"⟩, 17), (⟨"FieldPumps$Station", "countMinutes", "()V"⟩, 17)]
theorem lw_r1 : ∀ q ∈ lw_privs_1, lw_okq q := List.forall_mem_cons.mpr ⟨lw_p0, List.forall_mem_cons.mpr ⟨lw_p1, List.forall_mem_cons.mpr ⟨lw_p2, List.forall_mem_cons.mpr ⟨lw_p3, List.forall_mem_cons.mpr ⟨lw_p4, List.forall_mem_cons.mpr ⟨lw_p5, List.forall_mem_cons.mpr ⟨lw_p6, List.forall_mem_cons.mpr ⟨lw_p7, List.forall_mem_cons.mpr ⟨lw_p8, List.forall_mem_cons.mpr ⟨lw_p9, List.forall_mem_cons.mpr ⟨lw_p10, List.forall_mem_cons.mpr ⟨lw_p11, List.forall_mem_cons.mpr ⟨lw_p12, List.forall_mem_cons.mpr ⟨lw_p13, List.forall_mem_cons.mpr ⟨lw_p14, List.forall_mem_cons.mpr ⟨lw_p15, fun _ h => absurd h List.not_mem_nil⟩⟩⟩⟩⟩⟩⟩⟩⟩⟩⟩⟩⟩⟩⟩⟩
theorem lw_p16 : lw_okq (⟨"FieldPumps$Station", "cascade", "()V"⟩, 17) := ⟨⟨by decide +kernel, by decide +kernel⟩, List.mem_of_getElem? (i := 19) (by decide +kernel), List.mem_of_getElem? (i := 567) (by decide +kernel), List.mem_of_getElem? (i := 568) (by decide +kernel)⟩
theorem lw_p17 : lw_okq (⟨"FieldPumps$Station", "rotate", "()V"⟩, 17) := ⟨⟨by decide +kernel, by decide +kernel⟩, List.mem_of_getElem? (i := 19) (by decide +kernel), List.mem_of_getElem? (i := 575) (by decide +kernel), List.mem_of_getElem? (i := 576) (by decide +kernel)⟩
def lw_privs_2 : List (MethodName × Nat) := [(⟨"FieldPumps$Station", "cascade", "()V"⟩, 17), (⟨"FieldPumps$Station", "rotate", "()V"⟩, 17)]
theorem lw_r2 : ∀ q ∈ lw_privs_2, lw_okq q := List.forall_mem_cons.mpr ⟨lw_p16, List.forall_mem_cons.mpr ⟨lw_p17, fun _ h => absurd h List.not_mem_nil⟩⟩
def lw_privs : List (MethodName × Nat) := lw_privs_1 ++ (lw_privs_2)
def lw_tbl : List Cond := k2_sels lw_privs ++ tables_1
theorem lw_privs_ok : ∀ q ∈ lw_privs, lw_okq q := by
  show ∀ q ∈ lw_privs_1 ++ (lw_privs_2), lw_okq q
  exact List.forall_mem_append.mpr ⟨lw_r1, lw_r2⟩
def RX0 : String := "FieldPumps$Events"
def TX0 : u_T := fun k => match k with
  | 0 => ("FieldPumps$Events", "kinds", "[I", true)
  | 1 => ("FieldPumps$Events", "times", "[I", true)
  | 2 => ("FieldPumps$Events", "pumps", "[I", true)
  | 3 => ("FieldPumps$Events", "latestTimes", "[I", true)
  | _ => ("FieldPumps$Events", "all", "I", false)
def tyX0 : Nat → FieldType := fun k => match k with
  | 0 => .array .int
  | 1 => .array .int
  | 2 => .array .int
  | 3 => .array .int
  | _ => .int
abbrev wsX00 : List Cond := u_ws RX0 TX0 5
theorem nmX0 : ∀ a, a < 5 → ∀ b, b < 5 → a ≠ b → (TX0 a).2.1 ≠ (TX0 b).2.1 := by decide +kernel
theorem tyX0_ok : ∀ k, k < 5 → parseFieldDescriptor (TX0 k).2.2.1 = some (tyX0 k) := by decide +kernel
abbrev cX0_init : ByteArray := prog_2_method_1_code
def yX0_init : MethodName := ⟨RX0, "<init>", "()V"⟩
abbrev cX0_copyFrom : ByteArray := prog_2_method_2_code
def yX0_copyFrom : MethodName := ⟨RX0, "copyFrom", "(LFieldPumps$Events;)V"⟩
abbrev cX0_add : ByteArray := prog_2_method_3_code
def yX0_add : MethodName := ⟨RX0, "add", "(III)V"⟩
abbrev cX0_kept : ByteArray := prog_2_method_4_code
def yX0_kept : MethodName := ⟨RX0, "kept", "()I"⟩
abbrev cX0_rowOf : ByteArray := prog_2_method_5_code
def yX0_rowOf : MethodName := ⟨RX0, "rowOf", "(I)I"⟩
def RX1 : String := "FieldPumps$Nights"
def TX1 : u_T := fun k => match k with
  | 0 => ("FieldPumps$Nights", "noted", "[I", true)
  | 1 => ("FieldPumps$Nights", "size", "I", false)
  | 2 => ("FieldPumps$Nights", "flow", "I", false)
  | _ => ("FieldPumps$Nights", "alarms", "I", false)
def tyX1 : Nat → FieldType := fun k => match k with
  | 0 => .array .int
  | 1 => .int
  | 2 => .int
  | _ => .int
abbrev wsX10 : List Cond := u_ws RX1 TX1 4
theorem nmX1 : ∀ a, a < 4 → ∀ b, b < 4 → a ≠ b → (TX1 a).2.1 ≠ (TX1 b).2.1 := by decide +kernel
theorem tyX1_ok : ∀ k, k < 4 → parseFieldDescriptor (TX1 k).2.2.1 = some (tyX1 k) := by decide +kernel
abbrev cX1_init : ByteArray := prog_3_method_1_code
def yX1_init : MethodName := ⟨RX1, "<init>", "()V"⟩
abbrev cX1_copyFrom : ByteArray := prog_3_method_2_code
def yX1_copyFrom : MethodName := ⟨RX1, "copyFrom", "(LFieldPumps$Nights;)V"⟩
abbrev cX1_tellLeak : ByteArray := prog_3_method_4_code
def yX1_tellLeak : MethodName := ⟨RX1, "tellLeak", "(I)Z"⟩
abbrev cX1_middle : ByteArray := prog_3_method_5_code
def yX1_middle : MethodName := ⟨RX1, "middle", "()I"⟩
abbrev cX1_note : ByteArray := prog_3_method_6_code
def yX1_note : MethodName := ⟨RX1, "note", "()V"⟩
def RX2 : String := "FieldPumps$Orders"
def TX2 : u_T := fun k => match k with
  | 0 => ("FieldPumps$Orders", "text", "[C", true)
  | 1 => ("FieldPumps$Orders", "length", "I", false)
  | 2 => ("FieldPumps$Orders", "place", "I", false)
  | 3 => ("FieldPumps$Orders", "behind", "I", false)
  | 4 => ("FieldPumps$Orders", "done", "I", false)
  | 5 => ("FieldPumps$Orders", "letter", "C", false)
  | _ => ("FieldPumps$Orders", "number", "I", false)
def tyX2 : Nat → FieldType := fun k => match k with
  | 0 => .array .char
  | 1 => .int
  | 2 => .int
  | 3 => .int
  | 4 => .int
  | 5 => .char
  | _ => .int
abbrev wsX20 : List Cond := u_ws RX2 TX2 7
theorem nmX2 : ∀ a, a < 7 → ∀ b, b < 7 → a ≠ b → (TX2 a).2.1 ≠ (TX2 b).2.1 := by decide +kernel
theorem tyX2_ok : ∀ k, k < 7 → parseFieldDescriptor (TX2 k).2.2.1 = some (tyX2 k) := by decide +kernel
abbrev cX2_init : ByteArray := prog_4_method_1_code
def yX2_init : MethodName := ⟨RX2, "<init>", "()V"⟩
def RX3 : String := "FieldPumps$Pumps"
def TX3 : u_T := fun k => match k with
  | 0 => ("FieldPumps$Pumps", "kinds", "[I", true)
  | 1 => ("FieldPumps$Pumps", "shutoffs", "[I", true)
  | 2 => ("FieldPumps$Pumps", "steeps", "[I", true)
  | 3 => ("FieldPumps$Pumps", "inService", "[Z", true)
  | 4 => ("FieldPumps$Pumps", "speeds", "[I", true)
  | 5 => ("FieldPumps$Pumps", "minutes", "[I", true)
  | 6 => ("FieldPumps$Pumps", "minutesSinceStart", "[I", true)
  | 7 => ("FieldPumps$Pumps", "starts", "[I", true)
  | 8 => ("FieldPumps$Pumps", "size", "I", false)
  | _ => ("FieldPumps$Pumps", "variable", "I", false)
def tyX3 : Nat → FieldType := fun k => match k with
  | 0 => .array .int
  | 1 => .array .int
  | 2 => .array .int
  | 3 => .array .boolean
  | 4 => .array .int
  | 5 => .array .int
  | 6 => .array .int
  | 7 => .array .int
  | 8 => .int
  | _ => .int
abbrev wsX30 : List Cond := u_ws RX3 TX3 10
theorem nmX3 : ∀ a, a < 10 → ∀ b, b < 10 → a ≠ b → (TX3 a).2.1 ≠ (TX3 b).2.1 := by decide +kernel
theorem tyX3_ok : ∀ k, k < 10 → parseFieldDescriptor (TX3 k).2.2.1 = some (tyX3 k) := by decide +kernel
abbrev cX3_init : ByteArray := prog_5_method_1_code
def yX3_init : MethodName := ⟨RX3, "<init>", "()V"⟩
abbrev cX3_copyFrom : ByteArray := prog_5_method_2_code
def yX3_copyFrom : MethodName := ⟨RX3, "copyFrom", "(LFieldPumps$Pumps;)V"⟩
abbrev cX3_add : ByteArray := prog_5_method_3_code
def yX3_add : MethodName := ⟨RX3, "add", "(III)I"⟩
abbrev cX3_has : ByteArray := prog_5_method_4_code
def yX3_has : MethodName := ⟨RX3, "has", "(I)Z"⟩
abbrev cX3_runs : ByteArray := prog_5_method_5_code
def yX3_runs : MethodName := ⟨RX3, "runs", "(I)Z"⟩
abbrev cX3_isReady : ByteArray := prog_5_method_6_code
def yX3_isReady : MethodName := ⟨RX3, "isReady", "(I)Z"⟩
abbrev cX3_hasVariable : ByteArray := prog_5_method_7_code
def yX3_hasVariable : MethodName := ⟨RX3, "hasVariable", "()Z"⟩
abbrev cX3_variableAt : ByteArray := prog_5_method_8_code
def yX3_variableAt : MethodName := ⟨RX3, "variableAt", "(I)Z"⟩
abbrev cX3_running : ByteArray := prog_5_method_9_code
def yX3_running : MethodName := ⟨RX3, "running", "()I"⟩
abbrev cX3_readyOnes : ByteArray := prog_5_method_10_code
def yX3_readyOnes : MethodName := ⟨RX3, "readyOnes", "()I"⟩
abbrev cX3_differenceOfMinutes : ByteArray := prog_5_method_11_code
def yX3_differenceOfMinutes : MethodName := ⟨RX3, "differenceOfMinutes", "()I"⟩
abbrev cX3_flowOf : ByteArray := prog_5_method_12_code
def yX3_flowOf : MethodName := ⟨RX3, "flowOf", "(III)I"⟩
abbrev cX3_flow : ByteArray := prog_5_method_13_code
def yX3_flow : MethodName := ⟨RX3, "flow", "(I)I"⟩
abbrev cX3_root : ByteArray := prog_5_method_14_code
def yX3_root : MethodName := ⟨RX3, "root", "(I)I"⟩
abbrev cX3_countMinute : ByteArray := prog_5_method_15_code
def yX3_countMinute : MethodName := ⟨RX3, "countMinute", "()V"⟩
abbrev cX3_readyInOrder : ByteArray := prog_5_method_16_code
def yX3_readyInOrder : MethodName := ⟨RX3, "readyInOrder", "(I)I"⟩
abbrev cX3_readyAhead : ByteArray := prog_5_method_17_code
def yX3_readyAhead : MethodName := ⟨RX3, "readyAhead", "(IZ)I"⟩
abbrev cX3_isAhead : ByteArray := prog_5_method_18_code
def yX3_isAhead : MethodName := ⟨RX3, "isAhead", "(IIZ)Z"⟩
abbrev cX3_start : ByteArray := prog_5_method_19_code
def yX3_start : MethodName := ⟨RX3, "start", "(II)V"⟩
abbrev cX3_stop : ByteArray := prog_5_method_20_code
def yX3_stop : MethodName := ⟨RX3, "stop", "(I)V"⟩
abbrev cX3_nextVariable : ByteArray := prog_5_method_21_code
def yX3_nextVariable : MethodName := ⟨RX3, "nextVariable", "()I"⟩
abbrev cX3_nextToStop : ByteArray := prog_5_method_22_code
def yX3_nextToStop : MethodName := ⟨RX3, "nextToStop", "()I"⟩
abbrev cX3_nextInRotation : ByteArray := prog_5_method_23_code
def yX3_nextInRotation : MethodName := ⟨RX3, "nextInRotation", "()I"⟩
def RX4 : String := "FieldPumps$Station"
def TX4 : u_T := fun k => match k with
  | 0 => ("FieldPumps$Station", "settings", "[I", true)
  | 1 => ("FieldPumps$Station", "pumps", "LFieldPumps$Pumps;", true)
  | 2 => ("FieldPumps$Station", "zones", "LFieldPumps$Zones;", true)
  | 3 => ("FieldPumps$Station", "nights", "LFieldPumps$Nights;", true)
  | 4 => ("FieldPumps$Station", "events", "LFieldPumps$Events;", true)
  | 5 => ("FieldPumps$Station", "time", "I", false)
  | 6 => ("FieldPumps$Station", "pressure", "I", false)
  | 7 => ("FieldPumps$Station", "level", "I", false)
  | 8 => ("FieldPumps$Station", "leak", "I", false)
  | 9 => ("FieldPumps$Station", "supply", "I", false)
  | 10 => ("FieldPumps$Station", "allSupplied", "I", false)
  | 11 => ("FieldPumps$Station", "dry", "Z", false)
  | 12 => ("FieldPumps$Station", "dryMinutes", "I", false)
  | 13 => ("FieldPumps$Station", "trips", "I", false)
  | 14 => ("FieldPumps$Station", "minutesToStart", "I", false)
  | 15 => ("FieldPumps$Station", "minutesToStop", "I", false)
  | _ => ("FieldPumps$Station", "minutesToSleep", "I", false)
def tyX4 : Nat → FieldType := fun k => match k with
  | 0 => .array .int
  | 1 => .object "FieldPumps$Pumps"
  | 2 => .object "FieldPumps$Zones"
  | 3 => .object "FieldPumps$Nights"
  | 4 => .object "FieldPumps$Events"
  | 5 => .int
  | 6 => .int
  | 7 => .int
  | 8 => .int
  | 9 => .int
  | 10 => .int
  | 11 => .boolean
  | 12 => .int
  | 13 => .int
  | 14 => .int
  | 15 => .int
  | _ => .int
abbrev wsX40 : List Cond := u_ws RX4 TX4 17
theorem nmX4 : ∀ a, a < 17 → ∀ b, b < 17 → a ≠ b → (TX4 a).2.1 ≠ (TX4 b).2.1 := by decide +kernel
theorem tyX4_ok : ∀ k, k < 17 → parseFieldDescriptor (TX4 k).2.2.1 = some (tyX4 k) := by decide +kernel
abbrev cX4_init : ByteArray := prog_6_method_1_code
def yX4_init : MethodName := ⟨RX4, "<init>", "()V"⟩
abbrev cX4_copyFrom : ByteArray := prog_6_method_2_code
def yX4_copyFrom : MethodName := ⟨RX4, "copyFrom", "(LFieldPumps$Station;)V"⟩
abbrev cX4_demand : ByteArray := prog_6_method_3_code
def yX4_demand : MethodName := ⟨RX4, "demand", "()I"⟩
abbrev cX4_runMinute : ByteArray := prog_6_method_4_code
def yX4_runMinute : MethodName := ⟨RX4, "runMinute", "()V"⟩
abbrev cX4_moveWater : ByteArray := prog_6_method_5_code
def yX4_moveWater : MethodName := ⟨RX4, "moveWater", "()V"⟩
abbrev cX4_watchNight : ByteArray := prog_6_method_6_code
def yX4_watchNight : MethodName := ⟨RX4, "watchNight", "()V"⟩
abbrev cX4_watchLevel : ByteArray := prog_6_method_7_code
def yX4_watchLevel : MethodName := ⟨RX4, "watchLevel", "()V"⟩
abbrev cX4_goOnIfFilled : ByteArray := prog_6_method_8_code
def yX4_goOnIfFilled : MethodName := ⟨RX4, "goOnIfFilled", "()V"⟩
abbrev cX4_forgetTrips : ByteArray := prog_6_method_9_code
def yX4_forgetTrips : MethodName := ⟨RX4, "forgetTrips", "()V"⟩
abbrev cX4_changeService : ByteArray := prog_6_method_10_code
def yX4_changeService : MethodName := ⟨RX4, "changeService", "(IZ)Z"⟩
abbrev cX4_start : ByteArray := prog_6_method_11_code
def yX4_start : MethodName := ⟨RX4, "start", "(II)V"⟩
abbrev cX4_stop : ByteArray := prog_6_method_12_code
def yX4_stop : MethodName := ⟨RX4, "stop", "(I)Z"⟩
abbrev cX4_adjustSpeed : ByteArray := prog_6_method_13_code
def yX4_adjustSpeed : MethodName := ⟨RX4, "adjustSpeed", "()V"⟩
abbrev cX4_wake : ByteArray := prog_6_method_14_code
def yX4_wake : MethodName := ⟨RX4, "wake", "()V"⟩
abbrev cX4_beginMinutesAnew : ByteArray := prog_6_method_15_code
def yX4_beginMinutesAnew : MethodName := ⟨RX4, "beginMinutesAnew", "()V"⟩
abbrev cX4_countMinutes : ByteArray := prog_6_method_16_code
def yX4_countMinutes : MethodName := ⟨RX4, "countMinutes", "()V"⟩
abbrev cX4_cascade : ByteArray := prog_6_method_17_code
def yX4_cascade : MethodName := ⟨RX4, "cascade", "()V"⟩
abbrev cX4_rotate : ByteArray := prog_6_method_18_code
def yX4_rotate : MethodName := ⟨RX4, "rotate", "()V"⟩
def RX5 : String := "FieldPumps$Zones"
def TX5 : u_T := fun k => match k with
  | 0 => ("FieldPumps$Zones", "demands", "[I", true)
  | 1 => ("FieldPumps$Zones", "isOpen", "[Z", true)
  | 2 => ("FieldPumps$Zones", "size", "I", false)
  | 3 => ("FieldPumps$Zones", "programmeZones", "[I", true)
  | 4 => ("FieldPumps$Zones", "opening", "[I", true)
  | 5 => ("FieldPumps$Zones", "closing", "[I", true)
  | _ => ("FieldPumps$Zones", "programmes", "I", false)
def tyX5 : Nat → FieldType := fun k => match k with
  | 0 => .array .int
  | 1 => .array .boolean
  | 2 => .int
  | 3 => .array .int
  | 4 => .array .int
  | 5 => .array .int
  | _ => .int
abbrev wsX50 : List Cond := u_ws RX5 TX5 7
theorem nmX5 : ∀ a, a < 7 → ∀ b, b < 7 → a ≠ b → (TX5 a).2.1 ≠ (TX5 b).2.1 := by decide +kernel
theorem tyX5_ok : ∀ k, k < 7 → parseFieldDescriptor (TX5 k).2.2.1 = some (tyX5 k) := by decide +kernel
abbrev cX5_init : ByteArray := prog_7_method_1_code
def yX5_init : MethodName := ⟨RX5, "<init>", "()V"⟩
abbrev cX5_copyFrom : ByteArray := prog_7_method_2_code
def yX5_copyFrom : MethodName := ⟨RX5, "copyFrom", "(LFieldPumps$Zones;)V"⟩
abbrev cX5_add : ByteArray := prog_7_method_3_code
def yX5_add : MethodName := ⟨RX5, "add", "(I)I"⟩
abbrev cX5_addProgramme : ByteArray := prog_7_method_4_code
def yX5_addProgramme : MethodName := ⟨RX5, "addProgramme", "(III)I"⟩
abbrev cX5_has : ByteArray := prog_7_method_5_code
def yX5_has : MethodName := ⟨RX5, "has", "(I)Z"⟩
abbrev cX5_openOnes : ByteArray := prog_7_method_6_code
def yX5_openOnes : MethodName := ⟨RX5, "openOnes", "()I"⟩
abbrev cX5_programmesOf : ByteArray := prog_7_method_7_code
def yX5_programmesOf : MethodName := ⟨RX5, "programmesOf", "(I)I"⟩
abbrev cX5_takenBy : ByteArray := prog_7_method_8_code
def yX5_takenBy : MethodName := ⟨RX5, "takenBy", "(II)I"⟩
abbrev cX5_taken : ByteArray := prog_7_method_9_code
def yX5_taken : MethodName := ⟨RX5, "taken", "(I)I"⟩
abbrev cX5_keepProgrammes : ByteArray := prog_7_method_10_code
def yX5_keepProgrammes : MethodName := ⟨RX5, "keepProgrammes", "(I)V"⟩
def RX6 : String := "FieldPumps"
def TX6 : u_T := fun k => match k with
  | 0 => ("FieldPumps", "now", "LFieldPumps$Station;", true)
  | 1 => ("FieldPumps", "trial", "LFieldPumps$Station;", true)
  | 2 => ("FieldPumps", "history", "[LFieldPumps$Station;", true)
  | 3 => ("FieldPumps", "states", "I", false)
  | _ => ("FieldPumps", "orders", "LFieldPumps$Orders;", true)
def tyX6 : Nat → FieldType := fun k => match k with
  | 0 => .object "FieldPumps$Station"
  | 1 => .object "FieldPumps$Station"
  | 2 => .array (.object "FieldPumps$Station")
  | 3 => .int
  | _ => .object "FieldPumps$Orders"
abbrev wsX60 : List Cond := u_ws RX6 TX6 5
theorem nmX6 : ∀ a, a < 5 → ∀ b, b < 5 → a ≠ b → (TX6 a).2.1 ≠ (TX6 b).2.1 := by decide +kernel
theorem tyX6_ok : ∀ k, k < 5 → parseFieldDescriptor (TX6 k).2.2.1 = some (tyX6 k) := by decide +kernel
abbrev cX6_init : ByteArray := prog_1_method_1_code
def yX6_init : MethodName := ⟨RX6, "<init>", "()V"⟩
abbrev cX6_set : ByteArray := prog_1_method_2_code
def yX6_set : MethodName := ⟨RX6, "set", "(II)I"⟩
abbrev cX6_pump : ByteArray := prog_1_method_3_code
def yX6_pump : MethodName := ⟨RX6, "pump", "(III)I"⟩
abbrev cX6_service : ByteArray := prog_1_method_4_code
def yX6_service : MethodName := ⟨RX6, "service", "(II)I"⟩
abbrev cX6_pumpOf : ByteArray := prog_1_method_5_code
def yX6_pumpOf : MethodName := ⟨RX6, "pumpOf", "(II)I"⟩
abbrev cX6_readyAt : ByteArray := prog_1_method_7_code
def yX6_readyAt : MethodName := ⟨RX6, "readyAt", "(I)I"⟩
abbrev cX6_balance : ByteArray := prog_1_method_8_code
def yX6_balance : MethodName := ⟨RX6, "balance", "()I"⟩
abbrev cX6_zone : ByteArray := prog_1_method_9_code
def yX6_zone : MethodName := ⟨RX6, "zone", "(I)I"⟩
abbrev cX6_open : ByteArray := prog_1_method_10_code
def yX6_open : MethodName := ⟨RX6, "open", "(II)I"⟩
abbrev cX6_leak : ByteArray := prog_1_method_11_code
def yX6_leak : MethodName := ⟨RX6, "leak", "(I)I"⟩
abbrev cX6_programme : ByteArray := prog_1_method_12_code
def yX6_programme : MethodName := ⟨RX6, "programme", "(III)I"⟩
abbrev cX6_zoneOf : ByteArray := prog_1_method_13_code
def yX6_zoneOf : MethodName := ⟨RX6, "zoneOf", "(II)I"⟩
abbrev cX6_fill : ByteArray := prog_1_method_14_code
def yX6_fill : MethodName := ⟨RX6, "fill", "(I)I"⟩
abbrev cX6_reset : ByteArray := prog_1_method_15_code
def yX6_reset : MethodName := ⟨RX6, "reset", "()I"⟩
abbrev cX6_pass : ByteArray := prog_1_method_16_code
def yX6_pass : MethodName := ⟨RX6, "pass", "(I)I"⟩
abbrev cX6_foresee : ByteArray := prog_1_method_17_code
def yX6_foresee : MethodName := ⟨RX6, "foresee", "(II)I"⟩
abbrev cX6_station : ByteArray := prog_1_method_19_code
def yX6_station : MethodName := ⟨RX6, "station", "(I)I"⟩
abbrev cX6_eventAt : ByteArray := prog_1_method_21_code
def yX6_eventAt : MethodName := ⟨RX6, "eventAt", "(II)I"⟩
abbrev cX6_count : ByteArray := prog_1_method_22_code
def yX6_count : MethodName := ⟨RX6, "count", "(I)I"⟩
abbrev cX6_undo : ByteArray := prog_1_method_23_code
def yX6_undo : MethodName := ⟨RX6, "undo", "()I"⟩
abbrev cX6_remember : ByteArray := prog_1_method_33_code
def yX6_remember : MethodName := ⟨RX6, "remember", "()V"⟩
abbrev cX6_within : ByteArray := prog_1_method_34_code
def yX6_within : MethodName := ⟨RX6, "within", "(III)Z"⟩
abbrev cX6_hold : ByteArray := prog_1_method_35_code
def yX6_hold : MethodName := ⟨RX6, "hold", "(III)I"⟩
def RX7 : String := "FieldPumpsModel"
def TX7 : u_T := fun k => match k with
  | _ => ("", "", "", false)
def tyX7 : Nat → FieldType := fun k => match k with
  | _ => .int
abbrev wsX70 : List Cond := u_ws RX7 TX7 0
theorem nmX7 : ∀ a, a < 0 → ∀ b, b < 0 → a ≠ b → (TX7 a).2.1 ≠ (TX7 b).2.1 := by decide +kernel
theorem tyX7_ok : ∀ k, k < 0 → parseFieldDescriptor (TX7 k).2.2.1 = some (tyX7 k) := by decide +kernel
def RJx8e188 : String := "java/lang/Cloneable"
def TJx8e188 : u_T := fun k => match k with
  | _ => ("", "", "", false)
def tyJx8e188 : Nat → FieldType := fun k => match k with
  | _ => .int
abbrev wsJx8e1880 : List Cond := u_ws RJx8e188 TJx8e188 0
theorem nmJx8e188 : ∀ a, a < 0 → ∀ b, b < 0 → a ≠ b → (TJx8e188 a).2.1 ≠ (TJx8e188 b).2.1 := by decide +kernel
theorem tyJx8e188_ok : ∀ k, k < 0 → parseFieldDescriptor (TJx8e188 k).2.2.1 = some (tyJx8e188 k) := by decide +kernel
def RJ9 : String := "java/lang/Math"
def TJ9 : u_T := fun k => match k with
  | _ => ("", "", "", false)
def tyJ9 : Nat → FieldType := fun k => match k with
  | _ => .int
abbrev wsJ90 : List Cond := u_ws RJ9 TJ9 0
theorem nmJ9 : ∀ a, a < 0 → ∀ b, b < 0 → a ≠ b → (TJ9 a).2.1 ≠ (TJ9 b).2.1 := by decide +kernel
theorem tyJ9_ok : ∀ k, k < 0 → parseFieldDescriptor (TJ9 k).2.2.1 = some (tyJ9 k) := by decide +kernel
abbrev cJ9_max_7cf53 : ByteArray := prog_11_method_65_code
def yJ9_max_7cf53 : MethodName := ⟨RJ9, "max", "(II)I"⟩
abbrev cJ9_min_7cf53 : ByteArray := prog_11_method_69_code
def yJ9_min_7cf53 : MethodName := ⟨RJ9, "min", "(II)I"⟩
def RJ10 : String := "java/lang/System"
def TJ10 : u_T := fun k => match k with
  | _ => ("", "", "", false)
def tyJ10 : Nat → FieldType := fun k => match k with
  | _ => .int
abbrev wsJ100 : List Cond := u_ws RJ10 TJ10 0
theorem nmJ10 : ∀ a, a < 0 → ∀ b, b < 0 → a ≠ b → (TJ10 a).2.1 ≠ (TJ10 b).2.1 := by decide +kernel
theorem tyJ10_ok : ∀ k, k < 0 → parseFieldDescriptor (TJ10 k).2.2.1 = some (tyJ10 k) := by decide +kernel
def RL : String := "FieldPumpsLaw"
abbrev cL_cell : ByteArray := method_2_code
def yL_cell : MethodName := ⟨RL, "cell", "([II)I"⟩
abbrev cL_up : ByteArray := method_3_code
def yL_up : MethodName := ⟨RL, "up", "(II)I"⟩
abbrev cL_isStep : ByteArray := method_4_code
def yL_isStep : MethodName := ⟨RL, "isStep", "(LFieldPumps;LFieldPumps;I)Z"⟩
abbrev cL_areAlike : ByteArray := method_5_code
def yL_areAlike : MethodName := ⟨RL, "areAlike", "(LFieldPumps;LFieldPumps;)Z"⟩
abbrev cL_isSound : ByteArray := method_6_code
def yL_isSound : MethodName := ⟨RL, "isSound", "(LFieldPumps;)Z"⟩
abbrev cL_isMinute : ByteArray := method_7_code
def yL_isMinute : MethodName := ⟨RL, "isMinute", "(LFieldPumps;)Z"⟩
abbrev cL_law : ByteArray := code
def yL_law : MethodName := ⟨RL, "law", "([I)Z"⟩
end
section
/-! ===== the frame of the whole proof: a method's walk over ABSTRACT cells; each instruction is an operation on (pc, locals, stack, state), proved once over the kit's rows ===== -/
/-- an abstract cell: an array of numbers (kind 0 int, 1 boolean, 2 char; length; contents), an object (class, fields), an array of references; a reference is the cell's place in the world -/
abbrev xCell : Type := (Nat × Nat × (Nat → Int32)) ⊕ ((Nat × List Value) ⊕ (Nat × (Nat → Option Nat)))
abbrev xW : Type := List xCell
abbrev xD : Type := (Nat → ClassId) × (Nat → Nat → Nat) × (Nat → ClassId)
abbrev xL : Type := List (Option Value)
def classes : List vw_C := [(RX0, TX0, 5), (RX1, TX1, 4), (RX2, TX2, 7), (RX3, TX3, 10), (RX4, TX4, 17), (RX5, TX5, 7), (RX6, TX6, 5)]
def tyOf (ci : Nat) : Nat → FieldType := match ci with
  | 0 => tyX0
  | 1 => tyX1
  | 2 => tyX2
  | 3 => tyX3
  | 4 => tyX4
  | 5 => tyX5
  | _ => tyX6
/-- the words that every method may use -/
def WS : List Cond := lw_tbl.filter goodWord
theorem ws_in {w : Cond} (h : w ∈ lw_tbl) (g : goodWord w = true) : w ∈ WS := List.mem_filter.mpr ⟨h, g⟩
theorem ws_tbl {w : Cond} (h : w ∈ WS) : w ∈ lw_tbl := (List.mem_filter.mp h).1
theorem ws_good {w : Cond} (h : w ∈ WS) : goodWord w = true := (List.mem_filter.mp h).2
/-- many words at once, by a program -/
def wsHas (l : List Cond) : Bool := l.all (fun w => lw_tbl.contains w && goodWord w)
theorem wsHas_mem {l : List Cond} (h : wsHas l = true) {w : Cond} (hw : w ∈ l) : w ∈ WS := by
  have h1 := List.all_eq_true.mp h w hw
  rw [Bool.and_eq_true] at h1
  exact ws_in (by simpa using h1.1) h1.2
def xcls_ok (q : vw_C) (ty : Nat → FieldType) : Prop := (∀ w ∈ u_ws q.1 q.2.1 q.2.2, w ∈ WS) ∧ (∀ k, k < q.2.2 → parseFieldDescriptor (q.2.1 k).2.2.1 = some (ty k)) ∧ (∀ a, a < q.2.2 → ∀ b, b < q.2.2 → a ≠ b → (q.2.1 a).2.1 ≠ (q.2.1 b).2.1)
theorem xcls0 : xcls_ok (RX0, TX0, 5) tyX0 := ⟨fun _ h => wsHas_mem (l := wsX00) (by decide +kernel) h, tyX0_ok, nmX0⟩
theorem xcls1 : xcls_ok (RX1, TX1, 4) tyX1 := ⟨fun _ h => wsHas_mem (l := wsX10) (by decide +kernel) h, tyX1_ok, nmX1⟩
theorem xcls2 : xcls_ok (RX2, TX2, 7) tyX2 := ⟨fun _ h => wsHas_mem (l := wsX20) (by decide +kernel) h, tyX2_ok, nmX2⟩
theorem xcls3 : xcls_ok (RX3, TX3, 10) tyX3 := ⟨fun _ h => wsHas_mem (l := wsX30) (by decide +kernel) h, tyX3_ok, nmX3⟩
theorem xcls4 : xcls_ok (RX4, TX4, 17) tyX4 := ⟨fun _ h => wsHas_mem (l := wsX40) (by decide +kernel) h, tyX4_ok, nmX4⟩
theorem xcls5 : xcls_ok (RX5, TX5, 7) tyX5 := ⟨fun _ h => wsHas_mem (l := wsX50) (by decide +kernel) h, tyX5_ok, nmX5⟩
theorem xcls6 : xcls_ok (RX6, TX6, 5) tyX6 := ⟨fun _ h => wsHas_mem (l := wsX60) (by decide +kernel) h, tyX6_ok, nmX6⟩
theorem xcls {ci : Nat} {q : vw_C} (h : classes[ci]? = some q) : xcls_ok q (tyOf ci) := by
  match ci, h with
  | 0, h => cases h; exact xcls0
  | 1, h => cases h; exact xcls1
  | 2, h => cases h; exact xcls2
  | 3, h => cases h; exact xcls3
  | 4, h => cases h; exact xcls4
  | 5, h => cases h; exact xcls5
  | 6, h => cases h; exact xcls6
  | n + 7, h => simp [classes] at h
def xv (ad : Nat → Nat) : Value → Value
  | .ref k => .ref (ad k)
  | v => v
theorem xv_cat (ad : Nat → Nat) (v : Value) : (xv ad v).category = v.category := by cases v <;> rfl
def xc (D : xD) (ad : Nat → Nat) : xCell → va_E
  | .inl (t, n, f) => .inl (D.2.2 t, n, .inl f)
  | .inr (.inl (ci, fs)) => .inr (ci, fs.map (xv ad))
  | .inr (.inr (n, f)) => .inl (D.2.2 3, n, .inr (.inr (.inr (.inr (fun j => (f j).map ad)))))
def xw (D : xD) (ad : Nat → Nat) (w : xW) : va_W := w.mapIdx (fun i c => (ad i, xc D ad c))
theorem xw_get (D : xD) (ad : Nat → Nat) (w : xW) (i : Nat) : (xw D ad w)[i]? = w[i]?.map (fun c => (ad i, xc D ad c)) := by simp [xw]
theorem xw_set (D : xD) (ad : Nat → Nat) (w : xW) (i : Nat) (c : xCell) : xw D ad (w.set i c) = (xw D ad w).set i (ad i, xc D ad c) := by
  apply List.ext_getElem?
  intro j
  rw [xw_get, List.getElem?_set, List.getElem?_set]
  by_cases h : i = j
  · subst h
    simp [xw]
  · simp [h, xw_get]
theorem xw_len (D : xD) (ad : Nat → Nat) (w : xW) : (xw D ad w).length = w.length := by simp [xw]
def xty (D : xD) : List (ClassId × FieldType) := [(D.2.2 0, .int), (D.2.2 1, .boolean), (D.2.2 2, .char), (D.2.2 3, .object RX4)]
def tagTy (t : Nat) : FieldType := match t with
  | 0 => .int
  | 1 => .boolean
  | 2 => .char
  | _ => .object RX4
theorem xty_get (D : xD) {t : Nat} (h : t < 4) : (xty D)[t]? = some (D.2.2 t, tagTy t) := by
  match t, h with
  | 0, _ => rfl
  | 1, _ => rfl
  | 2, _ => rfl
  | 3, _ => rfl
/-- the addresses of n cells: apart, and of a kind -/
def xap (A : Nat → Prop) (ad : Nat → Nat) (n : Nat) : Prop := (∀ i j, i < n → j < n → ad i = ad j → i = j) ∧ ∀ i, i < n → A (ad i)
theorem xap_D {A : Nat → Prop} {ad : Nat → Nat} {w : xW} (D : xD) (h : xap A ad w.length) : va_D A (xw D ad w) := by
  refine ⟨fun i j p q hi hj e => ?_, fun k q hk => ?_⟩
  · rw [xw_get] at hi hj
    cases h1 : w[i]? with
    | none => rw [h1] at hi; cases hi
    | some c1 =>
      cases h2 : w[j]? with
      | none => rw [h2] at hj; cases hj
      | some c2 =>
        rw [h1] at hi; rw [h2] at hj
        cases hi; cases hj
        exact h.1 i j (List.getElem?_eq_some_iff.mp h1).1 (List.getElem?_eq_some_iff.mp h2).1 e
  · rw [xw_get] at hk
    cases h1 : w[k]? with
    | none => rw [h1] at hk; cases hk
    | some c1 =>
      rw [h1] at hk; cases hk
      exact h.2 k (List.getElem?_eq_some_iff.mp h1).1
/-- the nest mates' words, which no word list carries -/
def xNestM : List (String × Nat × MethodName × String) := [(RX6, 9, yX4_init, RX6), (RX4, 25, yX3_init, RX6), (RX4, 32, yX5_init, RX6), (RX4, 39, yX1_init, RX6), (RX4, 46, yX0_init, RX6), (RX6, 25, yX2_init, RX6), (RX4, 159, yX6_hold, RX6)]
def xKn (D : xD) (U : State) : Prop := va_K (D.1, D.2.1) classes (xty D) U ∧ (∀ q ∈ xNestM, va_Nw (.methodLinkNest q.1 q.2.1 q.2.2.1 q.2.2.2) U) ∧ va_Nw (.fieldLinkNest RX4 9 RX6 "FIRST_SETTINGS" "[I" RX6) U
theorem xKn.warm {D : xD} {s U : State} (hW : s.WarmedH U.vm) (h : xKn D s) : xKn D U := ⟨va_K.moved hW.alike h.1, fun q hq => va_Nw.warmM hW (h.2.1 q hq), va_Nw.warmF hW h.2.2⟩
theorem xKn.calling {D : xD} {U : State} (h : xKn D U) (g : JFrame) (mk : MethodId) (a : Array Value) : xKn D (U.calling g mk a) := ⟨va_K.moved (u := U) (U := U.calling g mk a) (Vm.Alike.refl U.vm) h.1, fun q hq => va_Nw.same rfl rfl (h.2.1 q hq), va_Nw.same rfl rfl h.2.2⟩
/-! locals -/
def lvp (ad : Nat → Nat) : Nat → xL → List (Nat × Value)
  | _, [] => []
  | k, none :: t => lvp ad (k + 1) t
  | k, some v :: t => (k, xv ad v) :: lvp ad (k + 1) t
theorem lvp_mem {ad : Nat → Nat} : ∀ (L : xL) (k i : Nat) (v : Value), (i, v) ∈ lvp ad k L ↔ ∃ (j : Nat) (u : Value), i = k + j ∧ L[j]? = some (some u) ∧ v = xv ad u
  | [], k, i, v => by simp [lvp]
  | none :: t, k, i, v => by
    rw [lvp, lvp_mem t]
    constructor
    · rintro ⟨j, u, h1, h2, h3⟩
      exact ⟨j + 1, u, by omega, by simpa using h2, h3⟩
    · rintro ⟨j, u, h1, h2, h3⟩
      cases j with
      | zero => simp at h2
      | succ j => exact ⟨j, u, by omega, by simpa using h2, h3⟩
  | some w :: t, k, i, v => by
    rw [lvp, List.mem_cons, lvp_mem t]
    constructor
    · rintro (h | ⟨j, u, h1, h2, h3⟩)
      · cases h
        exact ⟨0, w, by omega, by simp, rfl⟩
      · exact ⟨j + 1, u, by omega, by simpa using h2, h3⟩
    · rintro ⟨j, u, h1, h2, h3⟩
      cases j with
      | zero => simp at h2; subst h2; subst h3; exact Or.inl (by simp [h1])
      | succ j => exact Or.inr ⟨j, u, by omega, by simpa using h2, h3⟩
theorem lvp_at {ad : Nat → Nat} {ls : Array Slot} {nL : Nat} {L : xL} (h : lv_has ls nL (lvp ad 0 L)) {i : Nat} {v : Value} (hi : L[i]? = some (some v)) : ls[i]? = some (.val (xv ad v)) :=
  h.2.2 (i, xv ad v) ((lvp_mem L 0 i _).mpr ⟨i, v, by omega, hi, rfl⟩)
def xkill (L : xL) (i : Nat) : xL := match i with
  | 0 => L
  | j + 1 => match L[j]? with
    | some (some (.long _)) => L.set j none
    | _ => L
def xst1 (L : xL) (i : Nat) (v : Value) : xL := (xkill L i).set i (some v)
def xst2 (L : xL) (i : Nat) (v : Value) : xL := ((xkill L i).set i (some v)).set (i + 1) none
theorem xkill_len (L : xL) (i : Nat) : (xkill L i).length = L.length := by
  unfold xkill
  split
  · rfl
  · split <;> simp
theorem xst1_len (L : xL) (i : Nat) (v : Value) : (xst1 L i v).length = L.length := by simp [xst1, xkill_len]
theorem xst2_len (L : xL) (i : Nat) (v : Value) : (xst2 L i v).length = L.length := by simp [xst2, xkill_len]
/-- no long of L stands ahead of place i (floats and doubles are none of ours) -/
def xno (L : xL) : Prop := ∀ (j : Nat) (v : Value), L[j]? = some (some v) → v.category = 2 → ∃ y, v = .long y
theorem xkill_get {L : xL} {i j : Nat} {v : Value} (h : (xkill L i)[j]? = some (some v)) : L[j]? = some (some v) ∧ ¬ (j + 1 = i ∧ ∃ y, v = .long y) := by
  cases i with
  | zero => exact ⟨h, fun q => by omega⟩
  | succ i =>
    unfold xkill at h
    dsimp only at h
    split at h
    · rename_i y hy
      rw [List.getElem?_set] at h
      split at h
      · split at h <;> cases h
      · rename_i hne
        exact ⟨h, fun q => hne (by omega)⟩
    · rename_i hno
      refine ⟨h, fun q => ?_⟩
      obtain ⟨q1, y, rfl⟩ := q
      have : j = i := by omega
      subst this
      exact hno y h
theorem lvp_st1 {ad : Nat → Nat} {ls : Array Slot} {nL i : Nat} {L : xL} {v : Value} (hn : xno L) (h : lv_has ls nL ((i, xv ad v) :: (lvp ad 0 L).filter (fun q => !(q.1 == i) && !(q.1 + 1 == i && q.2.category == 2)))) : lv_has ls nL (lvp ad 0 (xst1 L i v)) := by
  refine ⟨h.1, h.2.1, fun q hq => h.2.2 q ?_⟩
  obtain ⟨a, b⟩ := q
  obtain ⟨j, u, h1, h2, h3⟩ := (lvp_mem _ _ _ _).mp hq
  have hj : a = j := by omega
  subst hj
  unfold xst1 at h2
  rw [List.getElem?_set] at h2
  split at h2
  · rename_i e
    subst e
    split at h2
    · cases h2
      rw [h3]
      exact List.mem_cons_self
    · cases h2
  · rename_i hne
    obtain ⟨g1, g2⟩ := xkill_get h2
    refine List.mem_cons_of_mem _ (List.mem_filter.mpr ⟨(lvp_mem _ _ _ _).mpr ⟨a, u, by omega, g1, h3⟩, ?_⟩)
    have e1 : (a == i) = false := by simpa using fun q => hne q.symm
    have e2 : (a + 1 == i && b.category == 2) = false := by
      rw [h3, xv_cat]
      simp only [Bool.and_eq_false_iff, beq_eq_false_iff_ne]
      by_cases z : a + 1 = i
      · refine Or.inr fun z2 => g2 ⟨z, hn a u g1 z2⟩
      · exact Or.inl z
    simp only [e1, e2]; rfl
theorem lvp_st2 {ad : Nat → Nat} {ls : Array Slot} {nL i : Nat} {L : xL} {v : Value} (hn : xno L) (h : lv_has ls nL ((i, xv ad v) :: (lvp ad 0 L).filter (fun q => !(q.1 == i) && (!(q.1 == i + 1) && !(q.1 + 1 == i && q.2.category == 2))))) : lv_has ls nL (lvp ad 0 (xst2 L i v)) := by
  refine ⟨h.1, h.2.1, fun q hq => h.2.2 q ?_⟩
  obtain ⟨a, b⟩ := q
  obtain ⟨j, u, h1, h2, h3⟩ := (lvp_mem _ _ _ _).mp hq
  have hj : a = j := by omega
  subst hj
  unfold xst2 at h2
  rw [List.getElem?_set] at h2
  split at h2
  · split at h2 <;> cases h2
  · rename_i hne2
    rw [List.getElem?_set] at h2
    split at h2
    · rename_i e
      subst e
      split at h2
      · cases h2
        rw [h3]
        exact List.mem_cons_self
      · cases h2
    · rename_i hne
      obtain ⟨g1, g2⟩ := xkill_get h2
      refine List.mem_cons_of_mem _ (List.mem_filter.mpr ⟨(lvp_mem _ _ _ _).mpr ⟨a, u, by omega, g1, h3⟩, ?_⟩)
      have e1 : (a == i) = false := by simpa using fun q => hne q.symm
      have e3 : (a == i + 1) = false := by simpa using fun q => hne2 q.symm
      have e2 : (a + 1 == i && b.category == 2) = false := by
        rw [h3, xv_cat]
        simp only [Bool.and_eq_false_iff, beq_eq_false_iff_ne]
        by_cases z : a + 1 = i
        · refine Or.inr fun z2 => g2 ⟨z, hn a u g1 z2⟩
        · exact Or.inl z
      simp only [e1, e2, e3]; rfl
theorem xno_set {L : xL} (h : xno L) (i : Nat) {v : Value} (hv : v.category = 2 → ∃ y, v = .long y) : xno (L.set i (some v)) := by
  intro j u hj hc
  rw [List.getElem?_set] at hj
  split at hj
  · split at hj
    · cases hj; exact hv hc
    · cases hj
  · exact h j u hj hc
theorem xno_none {L : xL} (h : xno L) (i : Nat) : xno (L.set i none) := by
  intro j u hj hc
  rw [List.getElem?_set] at hj
  split at hj
  · split at hj <;> cases hj
  · exact h j u hj hc
theorem xno_kill {L : xL} (h : xno L) (i : Nat) : xno (xkill L i) := fun _ _ hj hc => h _ _ (xkill_get hj).1 hc
theorem xno_st1 {L : xL} (h : xno L) (i : Nat) {v : Value} (hv : v.category = 2 → ∃ y, v = .long y) : xno (xst1 L i v) := xno_set (xno_kill h i) i hv
theorem xno_st2 {L : xL} (h : xno L) (i : Nat) {v : Value} (hv : v.category = 2 → ∃ y, v = .long y) : xno (xst2 L i v) := xno_none (xno_set (xno_kill h i) i hv) _
/-! the walk's judgement -/
abbrev En : Type _ := Program × Launch × Jvm.Env × Room × State × MethodId × Array Value × List Frame × Method × Code × (Array Value → State → Outcome → State → Prop) × (State → Prop) × (Nat × Nat) × (Nat → Prop) × Nat × xD × (Nat → Nat)
/-- from pc with locals L, stack st, state S the method comes to its end as it is due; pc 100000 stands for 'it has returned st.head?' -/
def Gd {σ : Type} (E : En) (toW : σ → xW) (pc : Nat) (L : xL) (st : List Value) (S : σ) : Prop :=
  match E with
  | (p, l, e, R, s, m, args, below, meth, c, Qc, Q, cs, A, nL, D, ad) =>
    ∀ (H : Heap) (locs : List Loc), va_P (D.1, D.2.1) classes (xw D ad (toW S)) H → xap A ad (toW S).length → va_S A s.heap H locs →
      (pc = 100000 → ∀ t : State, t.heap = H → s.WarmedH t.vm → Qc args s (.returned st.head?) t) ∧
      (pc ≠ 100000 → L.length = nL → xno L → ∀ ls : Array Slot, lv_has ls nL (lvp ad 0 L) → W p l e R s m args below meth c H locs cs.1 cs.2 Q (F0 m pc ls (st.map (xv ad))))
def Fx (E : En) (own : String) (cc : ByteArray) (maxL d : Nat) : Prop :=
  match E with
  | (p, l, e, R, s, m, args, below, meth, c, Qc, Q, cs, A, nL, D, ad) =>
    p.tables.exec = Jvm.exec ∧ c.code = cc ∧ c.maxLocals = nL ∧ nL = maxL ∧ s.vm.findClass own = some m.cls ∧ (∀ w ∈ WS, w.before args s = true) ∧ meth.locks = false ∧ xKn D s ∧ (∀ q, s.heap.size ≤ q → A q) ∧ cs.1 ≤ R.cells ∧ cs.2 ≤ R.slots ∧ d ≤ R.frames ∧ 36 * d ≤ R.locals
def Fr (E : En) (ret : Option FieldType) : Prop :=
  match E with
  | (p, l, e, R, s, m, args, below, meth, c, Qc, Q, cs, A, nL, D, ad) => meth.sig.returnType = ret ∧ Q = MQ below Qc args s cs.1 cs.2 A
abbrev Kt (σ : Type) : Type := Nat → xL → List Value → σ → Prop
abbrev Op (σ : Type) : Type := Kt σ → Nat → xL → List Value → σ → Prop
/-- an operation tells rightly what the instruction at pc does -/
def OpOk {σ : Type} (E : En) (toW : σ → xW) (pc : Nat) (op : Op σ) : Prop :=
  ∀ (K : Kt σ) (L : xL) (st : List Value) (S : σ), op K pc L st S → (∀ pc' L' st' S', K pc' L' st' S' → Gd E toW pc' L' st' S') → Gd E toW pc L st S
end
section
/-! ===== the operations, and that each tells rightly what its instruction does ===== -/
section OPS
variable {σ : Type} {E : En} {own : String} {cc : ByteArray} {maxL d pc : Nat} {toW : σ → xW}
/-- an instruction of pure kind: no cell changes; its row turns the goal into the next one -/
theorem OpOk.mk {op : Op σ} (hpc : pc < 100000)
    (h : ∀ {p : Program} {l : Launch} {e : Jvm.Env} {R : Room} {s : State} {m : MethodId} {args : Array Value} {below : List Frame} {meth : Method} {c : Code} {Qc : Array Value → State → Outcome → State → Prop} {Q : State → Prop} {cs : Nat × Nat} {A : Nat → Prop} {nL : Nat} {D : xD} {ad : Nat → Nat},
      E = (p, l, e, R, s, m, args, below, meth, c, Qc, Q, cs, A, nL, D, ad) →
      ∀ (K : Kt σ) (L : xL) (st : List Value) (S : σ), op K pc L st S → (∀ pc' L' st' S', K pc' L' st' S' → Gd E toW pc' L' st' S') →
      ∀ (H : Heap) (locs : List Loc), va_P (D.1, D.2.1) classes (xw D ad (toW S)) H → xap A ad (toW S).length → va_S A s.heap H locs → L.length = nL → xno L → ∀ ls : Array Slot, lv_has ls nL (lvp ad 0 L) → W p l e R s m args below meth c H locs cs.1 cs.2 Q (F0 m pc ls (st.map (xv ad)))) : OpOk E toW pc op := by
  intro K L st S ho hk
  obtain ⟨p, l, e, R, s, m, args, below, meth, c, Qc, Q, cs, A, nL, D, ad⟩ := E
  intro H locs hP hap hS
  exact ⟨fun q => by omega, fun _ hL hn ls hl => h rfl K L st S ho hk H locs hP hap hS hL hn ls hl⟩
/-- the goal behind an instruction -/
theorem Gd.use {p : Program} {l : Launch} {e : Jvm.Env} {R : Room} {s : State} {m : MethodId} {args : Array Value} {below : List Frame} {meth : Method} {c : Code} {Qc : Array Value → State → Outcome → State → Prop} {Q : State → Prop} {cs : Nat × Nat} {A : Nat → Prop} {nL : Nat} {D : xD} {ad : Nat → Nat} {pc : Nat} {L : xL} {st : List Value} {S : σ}
    (h : Gd (p, l, e, R, s, m, args, below, meth, c, Qc, Q, cs, A, nL, D, ad) toW pc L st S) (hpc : pc < 100000) {H : Heap} {locs : List Loc} (hP : va_P (D.1, D.2.1) classes (xw D ad (toW S)) H) (hap : xap A ad (toW S).length) (hS : va_S A s.heap H locs) (hL : L.length = nL) (hn : xno L) {ls : Array Slot} (hl : lv_has ls nL (lvp ad 0 L)) :
    W p l e R s m args below meth c H locs cs.1 cs.2 Q (F0 m pc ls (st.map (xv ad))) := (h H locs hP hap hS).2 (by omega) hL hn ls hl
-- constants
def O_int (v : Int32) (len : Nat) : Op σ := fun K pc L st S => K (pc + len) L (.int v :: st) S
def O_long (v : Int64) (len : Nat) : Op σ := fun K pc L st S => K (pc + len) L (.long v :: st) S
theorem ok_iconst (F : Fx E own cc maxL d) {n : Int} {v : Int32} (hd : decode cc pc = .ok (.iconst n, 1)) (hv : Int32.ofInt n = v) (hpc : pc + 1 < 100000) : OpOk E toW pc (O_int v 1) := by
  refine OpOk.mk (by omega) fun hE K L st S ho hk H locs hP hap hS hL hn ls hl => ?_
  subst hE
  exact lv_iconst F.1 F.2.1 hd hv ((hk _ _ _ _ ho).use hpc hP hap hS hL hn hl)
theorem ok_bipush (F : Fx E own cc maxL d) {n : Int} {v : Int32} (hd : decode cc pc = .ok (.bipush n, 2)) (hv : (Int8.ofInt n).toInt32 = v) (hpc : pc + 2 < 100000) : OpOk E toW pc (O_int v 2) := by
  refine OpOk.mk (by omega) fun hE K L st S ho hk H locs hP hap hS hL hn ls hl => ?_
  subst hE
  exact lv_bipush F.1 F.2.1 hd hv ((hk _ _ _ _ ho).use hpc hP hap hS hL hn hl)
theorem ok_sipush (F : Fx E own cc maxL d) {n : Int} {v : Int32} (hd : decode cc pc = .ok (.sipush n, 3)) (hv : (Int16.ofInt n).toInt32 = v) (hpc : pc + 3 < 100000) : OpOk E toW pc (O_int v 3) := by
  refine OpOk.mk (by omega) fun hE K L st S ho hk H locs hP hap hS hL hn ls hl => ?_
  subst hE
  exact lv_sipush F.1 F.2.1 hd hv ((hk _ _ _ _ ho).use hpc hP hap hS hL hn hl)
theorem ok_ldc (F : Fx E own cc maxL d) {ix : Nat} {v : Int32} (hw : Jvm.Cond.constant own ix v ∈ WS) (hd : decode cc pc = .ok (.ldc ix, 2)) (hpc : pc + 2 < 100000) : OpOk E toW pc (O_int v 2) := by
  refine OpOk.mk (by omega) fun hE K L st S ho hk H locs hP hap hS hL hn ls hl => ?_
  subst hE
  exact lv_ldc F.1 F.2.1 F.2.2.2.2.1 (F.2.2.2.2.2.1 _ hw) hd ((hk _ _ _ _ ho).use hpc hP hap hS hL hn hl)
theorem ok_ldc2 (F : Fx E own cc maxL d) {ix : Nat} {v : Int64} (hw : Jvm.Cond.constantLong own ix v ∈ WS) (hd : decode cc pc = .ok (.ldc2_w ix, 3)) (hpc : pc + 3 < 100000) : OpOk E toW pc (O_long v 3) := by
  refine OpOk.mk (by omega) fun hE K L st S ho hk H locs hP hap hS hL hn ls hl => ?_
  subst hE
  exact lv_ldc2 F.1 F.2.1 F.2.2.2.2.1 (F.2.2.2.2.2.1 _ hw) hd ((hk _ _ _ _ ho).use hpc hP hap hS hL hn hl)
theorem ok_lconst (F : Fx E own cc maxL d) {n : Fin 2} {v : Int64} (hd : decode cc pc = .ok (.lconst n, 1)) (hv : Int64.ofNat (n : Nat) = v) (hpc : pc + 1 < 100000) : OpOk E toW pc (O_long v 1) := by
  refine OpOk.mk (by omega) fun hE K L st S ho hk H locs hP hap hS hL hn ls hl => ?_
  subst hE
  exact lv_lconst F.1 F.2.1 hd hv ((hk _ _ _ _ ho).use hpc hP hap hS hL hn hl)
-- locals
def O_iload (i len : Nat) : Op σ := fun K pc L st S => match L[i]? with
  | some (some (.int x)) => K (pc + len) L (.int x :: st) S
  | _ => False
def O_aload (i len : Nat) : Op σ := fun K pc L st S => match L[i]? with
  | some (some (.ref x)) => K (pc + len) L (.ref x :: st) S
  | _ => False
def O_lload (i len : Nat) : Op σ := fun K pc L st S => match L[i]? with
  | some (some (.long x)) => K (pc + len) L (.long x :: st) S
  | _ => False
theorem ok_iload_n (F : Fx E own cc maxL d) {k : Fin 4} {i : Nat} (hd : decode cc pc = .ok (.iload_n k, 1)) (hi : (k : Nat) = i) (hpc : pc + 1 < 100000) : OpOk E toW pc (O_iload i 1) := by
  refine OpOk.mk (by omega) fun hE K L st S ho hk H locs hP hap hS hL hn ls hl => ?_
  subst hE
  unfold O_iload at ho
  split at ho
  · rename_i x hx
    exact lv_iload_n F.1 F.2.1 hd hi (lvp_at hl hx) ((hk _ _ _ _ ho).use hpc hP hap hS hL hn hl)
  · exact ho.elim
theorem ok_iload (F : Fx E own cc maxL d) {i : Nat} (hd : decode cc pc = .ok (.iload i, 2)) (hpc : pc + 2 < 100000) : OpOk E toW pc (O_iload i 2) := by
  refine OpOk.mk (by omega) fun hE K L st S ho hk H locs hP hap hS hL hn ls hl => ?_
  subst hE
  unfold O_iload at ho
  split at ho
  · rename_i x hx
    exact lv_iload F.1 F.2.1 hd (lvp_at hl hx) ((hk _ _ _ _ ho).use hpc hP hap hS hL hn hl)
  · exact ho.elim
theorem ok_aload_n (F : Fx E own cc maxL d) {k : Fin 4} {i : Nat} (hd : decode cc pc = .ok (.aload_n k, 1)) (hi : (k : Nat) = i) (hpc : pc + 1 < 100000) : OpOk E toW pc (O_aload i 1) := by
  refine OpOk.mk (by omega) fun hE K L st S ho hk H locs hP hap hS hL hn ls hl => ?_
  subst hE
  unfold O_aload at ho
  split at ho
  · rename_i x hx
    exact lv_aload_n F.1 F.2.1 hd hi (lvp_at hl hx) ((hk _ _ _ _ ho).use hpc hP hap hS hL hn hl)
  · exact ho.elim
theorem ok_aload (F : Fx E own cc maxL d) {i : Nat} (hd : decode cc pc = .ok (.aload i, 2)) (hpc : pc + 2 < 100000) : OpOk E toW pc (O_aload i 2) := by
  refine OpOk.mk (by omega) fun hE K L st S ho hk H locs hP hap hS hL hn ls hl => ?_
  subst hE
  unfold O_aload at ho
  split at ho
  · rename_i x hx
    exact lv_aload F.1 F.2.1 hd (lvp_at hl hx) ((hk _ _ _ _ ho).use hpc hP hap hS hL hn hl)
  · exact ho.elim
theorem ok_lload_n (F : Fx E own cc maxL d) {k : Fin 4} {i : Nat} (hd : decode cc pc = .ok (.lload_n k, 1)) (hi : (k : Nat) = i) (hpc : pc + 1 < 100000) : OpOk E toW pc (O_lload i 1) := by
  refine OpOk.mk (by omega) fun hE K L st S ho hk H locs hP hap hS hL hn ls hl => ?_
  subst hE
  unfold O_lload at ho
  split at ho
  · rename_i x hx
    exact lv_lload_n F.1 F.2.1 hd hi (lvp_at hl hx) ((hk _ _ _ _ ho).use hpc hP hap hS hL hn hl)
  · exact ho.elim
theorem ok_lload (F : Fx E own cc maxL d) {i : Nat} (hd : decode cc pc = .ok (.lload i, 2)) (hpc : pc + 2 < 100000) : OpOk E toW pc (O_lload i 2) := by
  refine OpOk.mk (by omega) fun hE K L st S ho hk H locs hP hap hS hL hn ls hl => ?_
  subst hE
  unfold O_lload at ho
  split at ho
  · rename_i x hx
    exact lv_lload F.1 F.2.1 hd (lvp_at hl hx) ((hk _ _ _ _ ho).use hpc hP hap hS hL hn hl)
  · exact ho.elim
def O_istore (i len : Nat) : Op σ := fun K pc L st S => match st with
  | .int x :: r => K (pc + len) (xst1 L i (.int x)) r S
  | _ => False
def O_astore (i len : Nat) : Op σ := fun K pc L st S => match st with
  | .ref x :: r => K (pc + len) (xst1 L i (.ref x)) r S
  | _ => False
def O_lstore (i len : Nat) : Op σ := fun K pc L st S => match st with
  | .long x :: r => K (pc + len) (xst2 L i (.long x)) r S
  | _ => False
def O_iinc (i : Nat) (v : Int32) : Op σ := fun K pc L st S => match L[i]? with
  | some (some (.int x)) => K (pc + 3) (xst1 L i (.int (x + v))) st S
  | _ => False
theorem ok_istore_n (F : Fx E own cc maxL d) {k : Fin 4} {i : Nat} (hd : decode cc pc = .ok (.istore_n k, 1)) (hi : (k : Nat) = i) (hm : i < maxL) (hpc : pc + 1 < 100000) : OpOk E toW pc (O_istore i 1) := by
  refine OpOk.mk (by omega) fun hE K L st S ho hk H locs hP hap hS hL hn ls hl => ?_
  subst hE
  unfold O_istore at ho
  split at ho
  · refine lv_istore_n F.1 F.2.1 hd hi hl (by rw [F.2.2.2.1]; exact hm) rfl (fun ls' hl' => (hk _ _ _ _ ho).use hpc hP hap hS (by rw [xst1_len]; exact hL) (xno_st1 hn _ (fun h => by cases h)) (lvp_st1 hn hl'))
  · exact ho.elim
theorem ok_istore (F : Fx E own cc maxL d) {i : Nat} (hd : decode cc pc = .ok (.istore i, 2)) (hm : i < maxL) (hpc : pc + 2 < 100000) : OpOk E toW pc (O_istore i 2) := by
  refine OpOk.mk (by omega) fun hE K L st S ho hk H locs hP hap hS hL hn ls hl => ?_
  subst hE
  unfold O_istore at ho
  split at ho
  · refine lv_istore F.1 F.2.1 hd hl (by rw [F.2.2.2.1]; exact hm) rfl (fun ls' hl' => (hk _ _ _ _ ho).use hpc hP hap hS (by rw [xst1_len]; exact hL) (xno_st1 hn _ (fun h => by cases h)) (lvp_st1 hn hl'))
  · exact ho.elim
theorem ok_astore_n (F : Fx E own cc maxL d) {k : Fin 4} {i : Nat} (hd : decode cc pc = .ok (.astore_n k, 1)) (hi : (k : Nat) = i) (hm : i < maxL) (hpc : pc + 1 < 100000) : OpOk E toW pc (O_astore i 1) := by
  refine OpOk.mk (by omega) fun hE K L st S ho hk H locs hP hap hS hL hn ls hl => ?_
  subst hE
  unfold O_astore at ho
  split at ho
  · refine lv_astore_n F.1 F.2.1 hd hi hl (by rw [F.2.2.2.1]; exact hm) rfl (fun ls' hl' => (hk _ _ _ _ ho).use hpc hP hap hS (by rw [xst1_len]; exact hL) (xno_st1 hn _ (fun h => by cases h)) (lvp_st1 (v := .ref _) hn hl'))
  · exact ho.elim
theorem ok_lstore_n (F : Fx E own cc maxL d) {k : Fin 4} {i : Nat} (hd : decode cc pc = .ok (.lstore_n k, 1)) (hi : (k : Nat) = i) (hm : i + 1 < maxL) (hpc : pc + 1 < 100000) : OpOk E toW pc (O_lstore i 1) := by
  refine OpOk.mk (by omega) fun hE K L st S ho hk H locs hP hap hS hL hn ls hl => ?_
  subst hE
  unfold O_lstore at ho
  split at ho
  · refine lv_lstore_n F.1 F.2.1 hd hi hl (by rw [F.2.2.2.1]; exact hm) rfl (fun ls' hl' => (hk _ _ _ _ ho).use hpc hP hap hS (by rw [xst2_len]; exact hL) (xno_st2 hn _ (fun _ => ⟨_, rfl⟩)) (lvp_st2 hn hl'))
  · exact ho.elim
theorem ok_lstore (F : Fx E own cc maxL d) {i : Nat} (hd : decode cc pc = .ok (.lstore i, 2)) (hm : i + 1 < maxL) (hpc : pc + 2 < 100000) : OpOk E toW pc (O_lstore i 2) := by
  refine OpOk.mk (by omega) fun hE K L st S ho hk H locs hP hap hS hL hn ls hl => ?_
  subst hE
  unfold O_lstore at ho
  split at ho
  · refine lv_lstore F.1 F.2.1 hd hl (by rw [F.2.2.2.1]; exact hm) rfl (fun ls' hl' => (hk _ _ _ _ ho).use hpc hP hap hS (by rw [xst2_len]; exact hL) (xno_st2 hn _ (fun _ => ⟨_, rfl⟩)) (lvp_st2 hn hl'))
  · exact ho.elim
theorem ok_iinc (F : Fx E own cc maxL d) {i : Nat} {n : Int} {v : Int32} (hd : decode cc pc = .ok (.iinc i n, 3)) (hv : Int32.ofInt n = v) (hm : i < maxL) (hpc : pc + 3 < 100000) : OpOk E toW pc (O_iinc i v) := by
  refine OpOk.mk (by omega) fun hE K L st S ho hk H locs hP hap hS hL hn ls hl => ?_
  subst hE
  unfold O_iinc at ho
  split at ho
  · rename_i x hx
    obtain ⟨k, hk2⟩ := List.getElem?_of_mem ((lvp_mem (ad := _) L 0 i _).mpr ⟨i, .int x, by omega, hx, rfl⟩)
    refine lv_iinc F.1 F.2.1 hd hl hk2 (by rw [hv]) (by rw [F.2.2.2.1]; exact hm) rfl (fun ls' hl' => (hk _ _ _ _ ho).use hpc hP hap hS (by rw [xst1_len]; exact hL) (xno_st1 hn _ (fun h => by cases h)) (lvp_st1 (v := .int _) hn hl'))
  · exact ho.elim
-- the stack
def O_dup : Op σ := fun K pc L st S => match st with
  | .int x :: r => K (pc + 1) L (.int x :: .int x :: r) S
  | .ref x :: r => K (pc + 1) L (.ref x :: .ref x :: r) S
  | _ => False
def O_dup2 : Op σ := fun K pc L st S => match st with
  | .int x :: .ref y :: r => K (pc + 1) L (.int x :: .ref y :: .int x :: .ref y :: r) S
  | _ => False
def O_pop : Op σ := fun K pc L st S => match st with
  | .int _ :: r => K (pc + 1) L r S
  | _ => False
theorem ok_dup (F : Fx E own cc maxL d) (hd : decode cc pc = .ok (.dup, 1)) (hpc : pc + 1 < 100000) : OpOk E toW pc O_dup := by
  refine OpOk.mk (by omega) fun hE K L st S ho hk H locs hP hap hS hL hn ls hl => ?_
  subst hE
  unfold O_dup at ho
  split at ho
  · exact lv_dup F.1 F.2.1 hd rfl ((hk _ _ _ _ ho).use hpc hP hap hS hL hn hl)
  · exact lv_dup F.1 F.2.1 hd rfl ((hk _ _ _ _ ho).use hpc hP hap hS hL hn hl)
  · exact ho.elim
theorem ok_dup2 (F : Fx E own cc maxL d) (hd : decode cc pc = .ok (.dup2, 1)) (hpc : pc + 1 < 100000) : OpOk E toW pc O_dup2 := by
  refine OpOk.mk (by omega) fun hE K L st S ho hk H locs hP hap hS hL hn ls hl => ?_
  subst hE
  unfold O_dup2 at ho
  split at ho
  · exact lv_dup2_11 F.1 F.2.1 hd rfl rfl ((hk _ _ _ _ ho).use hpc hP hap hS hL hn hl)
  · exact ho.elim
theorem ok_pop (F : Fx E own cc maxL d) (hd : decode cc pc = .ok (.pop, 1)) (hpc : pc + 1 < 100000) : OpOk E toW pc O_pop := by
  refine OpOk.mk (by omega) fun hE K L st S ho hk H locs hP hap hS hL hn ls hl => ?_
  subst hE
  unfold O_pop at ho
  split at ho
  · exact lv_pop F.1 F.2.1 hd rfl ((hk _ _ _ _ ho).use hpc hP hap hS hL hn hl)
  · exact ho.elim
-- goto, null tests
def O_goto (tgt : Nat) : Op σ := fun K _ L st S => K tgt L st S
theorem ok_goto (F : Fx E own cc maxL d) {off : Int} {tgt : Nat} (hd : decode cc pc = .ok (.goto off, 3)) (ht : (pc : Int) + off = (tgt : Int)) (hpc : pc < 100000) (htg : tgt < 100000) : OpOk E toW pc (O_goto tgt) := by
  refine OpOk.mk hpc fun hE K L st S ho hk H locs hP hap hS hL hn ls hl => ?_
  subst hE
  exact lv_goto F.1 F.2.1 hd ht ((hk _ _ _ _ ho).use htg hP hap hS hL hn hl)
def O_ifnonnull (tgt : Nat) : Op σ := fun K _ L st S => match st with
  | .ref _ :: r => K tgt L r S
  | _ => False
def O_ifnull : Op σ := fun K pc L st S => match st with
  | .ref _ :: r => K (pc + 3) L r S
  | _ => False
theorem ok_ifnonnull (F : Fx E own cc maxL d) {off : Int} {tgt : Nat} (hd : decode cc pc = .ok (.ifnonnull off, 3)) (ht : (pc : Int) + off = (tgt : Int)) (hpc : pc < 100000) (htg : tgt < 100000) : OpOk E toW pc (O_ifnonnull tgt) := by
  refine OpOk.mk hpc fun hE K L st S ho hk H locs hP hap hS hL hn ls hl => ?_
  subst hE
  unfold O_ifnonnull at ho
  split at ho
  · exact lv_ifnonnull F.1 F.2.1 hd ht ((hk _ _ _ _ ho).use htg hP hap hS hL hn hl)
  · exact ho.elim
theorem ok_ifnull (F : Fx E own cc maxL d) {off : Int} (hd : decode cc pc = .ok (.ifnull off, 3)) (hpc : pc + 3 < 100000) : OpOk E toW pc O_ifnull := by
  refine OpOk.mk (by omega) fun hE K L st S ho hk H locs hP hap hS hL hn ls hl => ?_
  subst hE
  unfold O_ifnull at ho
  split at ho
  · exact lv_ifnull F.1 F.2.1 hd ((hk _ _ _ _ ho).use hpc hP hap hS hL hn hl)
  · exact ho.elim
-- conversions, lcmp
def O_i2l : Op σ := fun K pc L st S => match st with
  | .int x :: r => K (pc + 1) L (.long x.toInt64 :: r) S
  | _ => False
def O_l2i : Op σ := fun K pc L st S => match st with
  | .long x :: r => K (pc + 1) L (.int x.toInt32 :: r) S
  | _ => False
def O_i2c : Op σ := fun K pc L st S => match st with
  | .int x :: r => K (pc + 1) L (.int (x.toUInt32 % 65536).toInt32 :: r) S
  | _ => False
def O_ineg : Op σ := fun K pc L st S => match st with
  | .int x :: r => K (pc + 1) L (.int (-x) :: r) S
  | _ => False
def O_lcmp : Op σ := fun K pc L st S => match st with
  | .long y :: .long x :: r => K (pc + 1) L (.int (lg_cmp x y) :: r) S
  | _ => False
theorem ok_i2l (F : Fx E own cc maxL d) (hd : decode cc pc = .ok (.i2l, 1)) (hpc : pc + 1 < 100000) : OpOk E toW pc O_i2l := by
  refine OpOk.mk (by omega) fun hE K L st S ho hk H locs hP hap hS hL hn ls hl => ?_
  subst hE
  unfold O_i2l at ho
  split at ho
  · exact lv_i2l F.1 F.2.1 hd rfl ((hk _ _ _ _ ho).use hpc hP hap hS hL hn hl)
  · exact ho.elim
theorem ok_l2i (F : Fx E own cc maxL d) (hd : decode cc pc = .ok (.l2i, 1)) (hpc : pc + 1 < 100000) : OpOk E toW pc O_l2i := by
  refine OpOk.mk (by omega) fun hE K L st S ho hk H locs hP hap hS hL hn ls hl => ?_
  subst hE
  unfold O_l2i at ho
  split at ho
  · exact lv_l2i F.1 F.2.1 hd rfl ((hk _ _ _ _ ho).use hpc hP hap hS hL hn hl)
  · exact ho.elim
theorem ok_i2c (F : Fx E own cc maxL d) (hd : decode cc pc = .ok (.i2c, 1)) (hpc : pc + 1 < 100000) : OpOk E toW pc O_i2c := by
  refine OpOk.mk (by omega) fun hE K L st S ho hk H locs hP hap hS hL hn ls hl => ?_
  subst hE
  unfold O_i2c at ho
  split at ho
  · exact lv_i2c F.1 F.2.1 hd rfl ((hk _ _ _ _ ho).use hpc hP hap hS hL hn hl)
  · exact ho.elim
theorem ok_ineg (F : Fx E own cc maxL d) (hd : decode cc pc = .ok (.ineg, 1)) (hpc : pc + 1 < 100000) : OpOk E toW pc O_ineg := by
  refine OpOk.mk (by omega) fun hE K L st S ho hk H locs hP hap hS hL hn ls hl => ?_
  subst hE
  unfold O_ineg at ho
  split at ho
  · exact lv_ineg F.1 F.2.1 hd ((hk _ _ _ _ ho).use hpc hP hap hS hL hn hl)
  · exact ho.elim
theorem ok_lcmp (F : Fx E own cc maxL d) (hd : decode cc pc = .ok (.lcmp, 1)) (hpc : pc + 1 < 100000) : OpOk E toW pc O_lcmp := by
  refine OpOk.mk (by omega) fun hE K L st S ho hk H locs hP hap hS hL hn ls hl => ?_
  subst hE
  unfold O_lcmp at ho
  split at ho
  · exact W.lcmp F.1 F.2.1 hd ((hk _ _ _ _ ho).use hpc hP hap hS hL hn hl)
  · exact ho.elim
-- arithmetic
def O_iadd : Op σ := fun K pc L st S => match st with
  | .int y :: .int x :: r => K (pc + 1) L (.int (x + y) :: r) S
  | _ => False
theorem ok_iadd (F : Fx E own cc maxL d) (hd : decode cc pc = .ok (.iadd, 1)) (hpc : pc + 1 < 100000) : OpOk E toW pc O_iadd := by
  refine OpOk.mk (by omega) fun hE K L st S ho hk H locs hP hap hS hL hn ls hl => ?_
  subst hE
  unfold O_iadd at ho
  split at ho
  · exact lv_iadd F.1 F.2.1 hd ((hk _ _ _ _ ho).use hpc hP hap hS hL hn hl)
  · exact ho.elim
def O_isub : Op σ := fun K pc L st S => match st with
  | .int y :: .int x :: r => K (pc + 1) L (.int (x - y) :: r) S
  | _ => False
theorem ok_isub (F : Fx E own cc maxL d) (hd : decode cc pc = .ok (.isub, 1)) (hpc : pc + 1 < 100000) : OpOk E toW pc O_isub := by
  refine OpOk.mk (by omega) fun hE K L st S ho hk H locs hP hap hS hL hn ls hl => ?_
  subst hE
  unfold O_isub at ho
  split at ho
  · exact lv_isub F.1 F.2.1 hd ((hk _ _ _ _ ho).use hpc hP hap hS hL hn hl)
  · exact ho.elim
def O_imul : Op σ := fun K pc L st S => match st with
  | .int y :: .int x :: r => K (pc + 1) L (.int (x * y) :: r) S
  | _ => False
theorem ok_imul (F : Fx E own cc maxL d) (hd : decode cc pc = .ok (.imul, 1)) (hpc : pc + 1 < 100000) : OpOk E toW pc O_imul := by
  refine OpOk.mk (by omega) fun hE K L st S ho hk H locs hP hap hS hL hn ls hl => ?_
  subst hE
  unfold O_imul at ho
  split at ho
  · exact lv_imul F.1 F.2.1 hd ((hk _ _ _ _ ho).use hpc hP hap hS hL hn hl)
  · exact ho.elim
def O_iand : Op σ := fun K pc L st S => match st with
  | .int y :: .int x :: r => K (pc + 1) L (.int (x &&& y) :: r) S
  | _ => False
theorem ok_iand (F : Fx E own cc maxL d) (hd : decode cc pc = .ok (.iand, 1)) (hpc : pc + 1 < 100000) : OpOk E toW pc O_iand := by
  refine OpOk.mk (by omega) fun hE K L st S ho hk H locs hP hap hS hL hn ls hl => ?_
  subst hE
  unfold O_iand at ho
  split at ho
  · exact lv_iand F.1 F.2.1 hd ((hk _ _ _ _ ho).use hpc hP hap hS hL hn hl)
  · exact ho.elim
def O_ior : Op σ := fun K pc L st S => match st with
  | .int y :: .int x :: r => K (pc + 1) L (.int (x ||| y) :: r) S
  | _ => False
theorem ok_ior (F : Fx E own cc maxL d) (hd : decode cc pc = .ok (.ior, 1)) (hpc : pc + 1 < 100000) : OpOk E toW pc O_ior := by
  refine OpOk.mk (by omega) fun hE K L st S ho hk H locs hP hap hS hL hn ls hl => ?_
  subst hE
  unfold O_ior at ho
  split at ho
  · exact lv_ior F.1 F.2.1 hd ((hk _ _ _ _ ho).use hpc hP hap hS hL hn hl)
  · exact ho.elim
def O_ladd : Op σ := fun K pc L st S => match st with
  | .long y :: .long x :: r => K (pc + 1) L (.long (x + y) :: r) S
  | _ => False
theorem ok_ladd (F : Fx E own cc maxL d) (hd : decode cc pc = .ok (.ladd, 1)) (hpc : pc + 1 < 100000) : OpOk E toW pc O_ladd := by
  refine OpOk.mk (by omega) fun hE K L st S ho hk H locs hP hap hS hL hn ls hl => ?_
  subst hE
  unfold O_ladd at ho
  split at ho
  · exact lv_ladd F.1 F.2.1 hd ((hk _ _ _ _ ho).use hpc hP hap hS hL hn hl)
  · exact ho.elim
def O_lsub : Op σ := fun K pc L st S => match st with
  | .long y :: .long x :: r => K (pc + 1) L (.long (x - y) :: r) S
  | _ => False
theorem ok_lsub (F : Fx E own cc maxL d) (hd : decode cc pc = .ok (.lsub, 1)) (hpc : pc + 1 < 100000) : OpOk E toW pc O_lsub := by
  refine OpOk.mk (by omega) fun hE K L st S ho hk H locs hP hap hS hL hn ls hl => ?_
  subst hE
  unfold O_lsub at ho
  split at ho
  · exact lv_lsub F.1 F.2.1 hd ((hk _ _ _ _ ho).use hpc hP hap hS hL hn hl)
  · exact ho.elim
def O_lmul : Op σ := fun K pc L st S => match st with
  | .long y :: .long x :: r => K (pc + 1) L (.long (x * y) :: r) S
  | _ => False
theorem ok_lmul (F : Fx E own cc maxL d) (hd : decode cc pc = .ok (.lmul, 1)) (hpc : pc + 1 < 100000) : OpOk E toW pc O_lmul := by
  refine OpOk.mk (by omega) fun hE K L st S ho hk H locs hP hap hS hL hn ls hl => ?_
  subst hE
  unfold O_lmul at ho
  split at ho
  · exact lv_lmul F.1 F.2.1 hd ((hk _ _ _ _ ho).use hpc hP hap hS hL hn hl)
  · exact ho.elim
def O_ishl : Op σ := fun K pc L st S => match st with
  | .int y :: .int x :: r => K (pc + 1) L (.int (x <<< (y &&& 31)) :: r) S
  | _ => False
theorem ok_ishl (F : Fx E own cc maxL d) (hd : decode cc pc = .ok (.ishl, 1)) (hpc : pc + 1 < 100000) : OpOk E toW pc O_ishl := by
  refine OpOk.mk (by omega) fun hE K L st S ho hk H locs hP hap hS hL hn ls hl => ?_
  subst hE
  unfold O_ishl at ho
  split at ho
  · exact lv_ishl F.1 F.2.1 hd ((hk _ _ _ _ ho).use hpc hP hap hS hL hn hl)
  · exact ho.elim
def O_ishr : Op σ := fun K pc L st S => match st with
  | .int y :: .int x :: r => K (pc + 1) L (.int (x >>> (y &&& 31)) :: r) S
  | _ => False
theorem ok_ishr (F : Fx E own cc maxL d) (hd : decode cc pc = .ok (.ishr, 1)) (hpc : pc + 1 < 100000) : OpOk E toW pc O_ishr := by
  refine OpOk.mk (by omega) fun hE K L st S ho hk H locs hP hap hS hL hn ls hl => ?_
  subst hE
  unfold O_ishr at ho
  split at ho
  · exact lv_ishr F.1 F.2.1 hd ((hk _ _ _ _ ho).use hpc hP hap hS hL hn hl)
  · exact ho.elim
def O_idiv : Op σ := fun K pc L st S => match st with
  | .int y :: .int x :: r => ¬ y = 0 ∧ K (pc + 1) L (.int (x / y) :: r) S
  | _ => False
theorem ok_idiv (F : Fx E own cc maxL d) (hd : decode cc pc = .ok (.idiv, 1)) (hpc : pc + 1 < 100000) : OpOk E toW pc O_idiv := by
  refine OpOk.mk (by omega) fun hE K L st S ho hk H locs hP hap hS hL hn ls hl => ?_
  subst hE
  unfold O_idiv at ho
  split at ho
  · exact lv_idiv F.1 F.2.1 hd ho.1 ((hk _ _ _ _ ho.2).use hpc hP hap hS hL hn hl)
  · exact ho.elim
def O_irem : Op σ := fun K pc L st S => match st with
  | .int y :: .int x :: r => ¬ y = 0 ∧ K (pc + 1) L (.int (x - x / y * y) :: r) S
  | _ => False
theorem ok_irem (F : Fx E own cc maxL d) (hd : decode cc pc = .ok (.irem, 1)) (hpc : pc + 1 < 100000) : OpOk E toW pc O_irem := by
  refine OpOk.mk (by omega) fun hE K L st S ho hk H locs hP hap hS hL hn ls hl => ?_
  subst hE
  unfold O_irem at ho
  split at ho
  · exact lv_irem F.1 F.2.1 hd ho.1 ((hk _ _ _ _ ho.2).use hpc hP hap hS hL hn hl)
  · exact ho.elim
def O_ldiv : Op σ := fun K pc L st S => match st with
  | .long y :: .long x :: r => ¬ y = 0 ∧ K (pc + 1) L (.long (x / y) :: r) S
  | _ => False
theorem ok_ldiv (F : Fx E own cc maxL d) (hd : decode cc pc = .ok (.ldiv, 1)) (hpc : pc + 1 < 100000) : OpOk E toW pc O_ldiv := by
  refine OpOk.mk (by omega) fun hE K L st S ho hk H locs hP hap hS hL hn ls hl => ?_
  subst hE
  unfold O_ldiv at ho
  split at ho
  · exact lv_ldiv F.1 F.2.1 hd ho.1 ((hk _ _ _ _ ho.2).use hpc hP hap hS hL hn hl)
  · exact ho.elim
def O_icmp_eq (tgt : Nat) : Op σ := fun K pc L st S => match st with
  | .int y :: .int x :: r => (x = y → K tgt L r S) ∧ (¬ x = y → K (pc + 3) L r S)
  | _ => False
theorem ok_icmp_eq (F : Fx E own cc maxL d) {off : Int} {tgt : Nat} (hd : decode cc pc = .ok (.if_icmp .eq off, 3)) (ht : (pc : Int) + off = (tgt : Int)) (hpc : pc + 3 < 100000) (htg : tgt < 100000) : OpOk E toW pc (O_icmp_eq tgt) := by
  refine OpOk.mk (by omega) fun hE K L st S ho hk H locs hP hap hS hL hn ls hl => ?_
  subst hE
  unfold O_icmp_eq at ho
  split at ho
  · exact lv_icmp_eq F.1 F.2.1 hd ht (fun q => (hk _ _ _ _ (ho.1 (q))).use htg hP hap hS hL hn hl) (fun q => (hk _ _ _ _ (ho.2 (q))).use hpc hP hap hS hL hn hl)
  · exact ho.elim
def O_if_eq (tgt : Nat) : Op σ := fun K pc L st S => match st with
  | .int x :: r => (x = 0 → K tgt L r S) ∧ (¬ x = 0 → K (pc + 3) L r S)
  | _ => False
theorem ok_if_eq (F : Fx E own cc maxL d) {off : Int} {tgt : Nat} (hd : decode cc pc = .ok (.ifCond .eq off, 3)) (ht : (pc : Int) + off = (tgt : Int)) (hpc : pc + 3 < 100000) (htg : tgt < 100000) : OpOk E toW pc (O_if_eq tgt) := by
  refine OpOk.mk (by omega) fun hE K L st S ho hk H locs hP hap hS hL hn ls hl => ?_
  subst hE
  unfold O_if_eq at ho
  split at ho
  · exact lv_if_eq F.1 F.2.1 hd ht (fun q => (hk _ _ _ _ (ho.1 (q))).use htg hP hap hS hL hn hl) (fun q => (hk _ _ _ _ (ho.2 (q))).use hpc hP hap hS hL hn hl)
  · exact ho.elim
def O_icmp_ne (tgt : Nat) : Op σ := fun K pc L st S => match st with
  | .int y :: .int x :: r => (¬ x = y → K tgt L r S) ∧ (x = y → K (pc + 3) L r S)
  | _ => False
theorem ok_icmp_ne (F : Fx E own cc maxL d) {off : Int} {tgt : Nat} (hd : decode cc pc = .ok (.if_icmp .ne off, 3)) (ht : (pc : Int) + off = (tgt : Int)) (hpc : pc + 3 < 100000) (htg : tgt < 100000) : OpOk E toW pc (O_icmp_ne tgt) := by
  refine OpOk.mk (by omega) fun hE K L st S ho hk H locs hP hap hS hL hn ls hl => ?_
  subst hE
  unfold O_icmp_ne at ho
  split at ho
  · exact lv_icmp_ne F.1 F.2.1 hd ht (fun q => (hk _ _ _ _ (ho.1 (q))).use htg hP hap hS hL hn hl) (fun q => (hk _ _ _ _ (ho.2 (q))).use hpc hP hap hS hL hn hl)
  · exact ho.elim
def O_if_ne (tgt : Nat) : Op σ := fun K pc L st S => match st with
  | .int x :: r => (¬ x = 0 → K tgt L r S) ∧ (x = 0 → K (pc + 3) L r S)
  | _ => False
theorem ok_if_ne (F : Fx E own cc maxL d) {off : Int} {tgt : Nat} (hd : decode cc pc = .ok (.ifCond .ne off, 3)) (ht : (pc : Int) + off = (tgt : Int)) (hpc : pc + 3 < 100000) (htg : tgt < 100000) : OpOk E toW pc (O_if_ne tgt) := by
  refine OpOk.mk (by omega) fun hE K L st S ho hk H locs hP hap hS hL hn ls hl => ?_
  subst hE
  unfold O_if_ne at ho
  split at ho
  · exact lv_if_ne F.1 F.2.1 hd ht (fun q => (hk _ _ _ _ (ho.1 (q))).use htg hP hap hS hL hn hl) (fun q => (hk _ _ _ _ (ho.2 (q))).use hpc hP hap hS hL hn hl)
  · exact ho.elim
def O_icmp_lt (tgt : Nat) : Op σ := fun K pc L st S => match st with
  | .int y :: .int x :: r => (x < y → K tgt L r S) ∧ (¬ x < y → K (pc + 3) L r S)
  | _ => False
theorem ok_icmp_lt (F : Fx E own cc maxL d) {off : Int} {tgt : Nat} (hd : decode cc pc = .ok (.if_icmp .lt off, 3)) (ht : (pc : Int) + off = (tgt : Int)) (hpc : pc + 3 < 100000) (htg : tgt < 100000) : OpOk E toW pc (O_icmp_lt tgt) := by
  refine OpOk.mk (by omega) fun hE K L st S ho hk H locs hP hap hS hL hn ls hl => ?_
  subst hE
  unfold O_icmp_lt at ho
  split at ho
  · exact lv_icmp_lt F.1 F.2.1 hd ht (fun q => (hk _ _ _ _ (ho.1 (q))).use htg hP hap hS hL hn hl) (fun q => (hk _ _ _ _ (ho.2 (q))).use hpc hP hap hS hL hn hl)
  · exact ho.elim
def O_if_lt (tgt : Nat) : Op σ := fun K pc L st S => match st with
  | .int x :: r => (x < 0 → K tgt L r S) ∧ (¬ x < 0 → K (pc + 3) L r S)
  | _ => False
theorem ok_if_lt (F : Fx E own cc maxL d) {off : Int} {tgt : Nat} (hd : decode cc pc = .ok (.ifCond .lt off, 3)) (ht : (pc : Int) + off = (tgt : Int)) (hpc : pc + 3 < 100000) (htg : tgt < 100000) : OpOk E toW pc (O_if_lt tgt) := by
  refine OpOk.mk (by omega) fun hE K L st S ho hk H locs hP hap hS hL hn ls hl => ?_
  subst hE
  unfold O_if_lt at ho
  split at ho
  · exact lv_if_lt F.1 F.2.1 hd ht (fun q => (hk _ _ _ _ (ho.1 (q))).use htg hP hap hS hL hn hl) (fun q => (hk _ _ _ _ (ho.2 (q))).use hpc hP hap hS hL hn hl)
  · exact ho.elim
def O_icmp_ge (tgt : Nat) : Op σ := fun K pc L st S => match st with
  | .int y :: .int x :: r => (¬ x < y → K tgt L r S) ∧ (x < y → K (pc + 3) L r S)
  | _ => False
theorem ok_icmp_ge (F : Fx E own cc maxL d) {off : Int} {tgt : Nat} (hd : decode cc pc = .ok (.if_icmp .ge off, 3)) (ht : (pc : Int) + off = (tgt : Int)) (hpc : pc + 3 < 100000) (htg : tgt < 100000) : OpOk E toW pc (O_icmp_ge tgt) := by
  refine OpOk.mk (by omega) fun hE K L st S ho hk H locs hP hap hS hL hn ls hl => ?_
  subst hE
  unfold O_icmp_ge at ho
  split at ho
  · exact lv_icmp_ge F.1 F.2.1 hd ht (fun q => (hk _ _ _ _ (ho.1 (Int32.not_lt.mpr q))).use htg hP hap hS hL hn hl) (fun q => (hk _ _ _ _ (ho.2 (Int32.not_le.mp q))).use hpc hP hap hS hL hn hl)
  · exact ho.elim
def O_if_ge (tgt : Nat) : Op σ := fun K pc L st S => match st with
  | .int x :: r => (¬ x < 0 → K tgt L r S) ∧ (x < 0 → K (pc + 3) L r S)
  | _ => False
theorem ok_if_ge (F : Fx E own cc maxL d) {off : Int} {tgt : Nat} (hd : decode cc pc = .ok (.ifCond .ge off, 3)) (ht : (pc : Int) + off = (tgt : Int)) (hpc : pc + 3 < 100000) (htg : tgt < 100000) : OpOk E toW pc (O_if_ge tgt) := by
  refine OpOk.mk (by omega) fun hE K L st S ho hk H locs hP hap hS hL hn ls hl => ?_
  subst hE
  unfold O_if_ge at ho
  split at ho
  · exact lv_if_ge F.1 F.2.1 hd ht (fun q => (hk _ _ _ _ (ho.1 (Int32.not_lt.mpr q))).use htg hP hap hS hL hn hl) (fun q => (hk _ _ _ _ (ho.2 (Int32.not_le.mp q))).use hpc hP hap hS hL hn hl)
  · exact ho.elim
def O_icmp_gt (tgt : Nat) : Op σ := fun K pc L st S => match st with
  | .int y :: .int x :: r => (y < x → K tgt L r S) ∧ (¬ y < x → K (pc + 3) L r S)
  | _ => False
theorem ok_icmp_gt (F : Fx E own cc maxL d) {off : Int} {tgt : Nat} (hd : decode cc pc = .ok (.if_icmp .gt off, 3)) (ht : (pc : Int) + off = (tgt : Int)) (hpc : pc + 3 < 100000) (htg : tgt < 100000) : OpOk E toW pc (O_icmp_gt tgt) := by
  refine OpOk.mk (by omega) fun hE K L st S ho hk H locs hP hap hS hL hn ls hl => ?_
  subst hE
  unfold O_icmp_gt at ho
  split at ho
  · exact lv_icmp_gt F.1 F.2.1 hd ht (fun q => (hk _ _ _ _ (ho.1 (q))).use htg hP hap hS hL hn hl) (fun q => (hk _ _ _ _ (ho.2 (q))).use hpc hP hap hS hL hn hl)
  · exact ho.elim
def O_if_gt (tgt : Nat) : Op σ := fun K pc L st S => match st with
  | .int x :: r => (0 < x → K tgt L r S) ∧ (¬ 0 < x → K (pc + 3) L r S)
  | _ => False
theorem ok_if_gt (F : Fx E own cc maxL d) {off : Int} {tgt : Nat} (hd : decode cc pc = .ok (.ifCond .gt off, 3)) (ht : (pc : Int) + off = (tgt : Int)) (hpc : pc + 3 < 100000) (htg : tgt < 100000) : OpOk E toW pc (O_if_gt tgt) := by
  refine OpOk.mk (by omega) fun hE K L st S ho hk H locs hP hap hS hL hn ls hl => ?_
  subst hE
  unfold O_if_gt at ho
  split at ho
  · exact lv_if_gt F.1 F.2.1 hd ht (fun q => (hk _ _ _ _ (ho.1 (q))).use htg hP hap hS hL hn hl) (fun q => (hk _ _ _ _ (ho.2 (q))).use hpc hP hap hS hL hn hl)
  · exact ho.elim
def O_icmp_le (tgt : Nat) : Op σ := fun K pc L st S => match st with
  | .int y :: .int x :: r => (¬ y < x → K tgt L r S) ∧ (y < x → K (pc + 3) L r S)
  | _ => False
theorem ok_icmp_le (F : Fx E own cc maxL d) {off : Int} {tgt : Nat} (hd : decode cc pc = .ok (.if_icmp .le off, 3)) (ht : (pc : Int) + off = (tgt : Int)) (hpc : pc + 3 < 100000) (htg : tgt < 100000) : OpOk E toW pc (O_icmp_le tgt) := by
  refine OpOk.mk (by omega) fun hE K L st S ho hk H locs hP hap hS hL hn ls hl => ?_
  subst hE
  unfold O_icmp_le at ho
  split at ho
  · exact lv_icmp_le F.1 F.2.1 hd ht (fun q => (hk _ _ _ _ (ho.1 (Int32.not_lt.mpr q))).use htg hP hap hS hL hn hl) (fun q => (hk _ _ _ _ (ho.2 (Int32.not_le.mp q))).use hpc hP hap hS hL hn hl)
  · exact ho.elim
def O_if_le (tgt : Nat) : Op σ := fun K pc L st S => match st with
  | .int x :: r => (¬ 0 < x → K tgt L r S) ∧ (0 < x → K (pc + 3) L r S)
  | _ => False
theorem ok_if_le (F : Fx E own cc maxL d) {off : Int} {tgt : Nat} (hd : decode cc pc = .ok (.ifCond .le off, 3)) (ht : (pc : Int) + off = (tgt : Int)) (hpc : pc + 3 < 100000) (htg : tgt < 100000) : OpOk E toW pc (O_if_le tgt) := by
  refine OpOk.mk (by omega) fun hE K L st S ho hk H locs hP hap hS hL hn ls hl => ?_
  subst hE
  unfold O_if_le at ho
  split at ho
  · exact lv_if_le F.1 F.2.1 hd ht (fun q => (hk _ _ _ _ (ho.1 (Int32.not_lt.mpr q))).use htg hP hap hS hL hn hl) (fun q => (hk _ _ _ _ (ho.2 (Int32.not_le.mp q))).use hpc hP hap hS hL hn hl)
  · exact ho.elim
-- switches
def tsw {σ : Type} (K : Kt σ) (dt : Nat) (L : xL) (r : List Value) (S : σ) (x : Int32) : List (Int32 × Nat) → Prop
  | [] => K dt L r S
  | (c, t) :: u => (x = c → K t L r S) ∧ (¬ x = c → tsw K dt L r S x u)
def O_switch (cs : List (Int32 × Nat)) (dt : Nat) : Op σ := fun K _ L st S => match st with
  | .int x :: r => tsw K dt L r S x cs
  | _ => False
theorem tsw_in {K : Kt σ} {dt : Nat} {L : xL} {r : List Value} {S : σ} {x : Int32} : ∀ {cs : List (Int32 × Nat)} {k t : Nat}, tsw K dt L r S x cs → cs[k]? = some (x, t) → (∀ (j : Nat) (q : Int32 × Nat), j < k → cs[j]? = some q → x ≠ q.1) → K t L r S
  | [], k, t, _, h, _ => by simp at h
  | (c, t0) :: u, 0, t, h, e, _ => by
    simp at e
    obtain ⟨rfl, rfl⟩ := e
    exact h.1 rfl
  | (c, t0) :: u, k + 1, t, h, e, hne => tsw_in (h.2 (hne 0 (c, t0) (by omega) (by simp))) (by simpa using e) (fun j q hj hq => hne (j + 1) q (by omega) (by simpa using hq))
theorem tsw_out {K : Kt σ} {dt : Nat} {L : xL} {r : List Value} {S : σ} {x : Int32} : ∀ {cs : List (Int32 × Nat)}, tsw K dt L r S x cs → (∀ q ∈ cs, x ≠ q.1) → K dt L r S
  | [], h, _ => h
  | (c, t0) :: u, h, hne => tsw_out (h.2 (hne (c, t0) List.mem_cons_self)) (fun q hq => hne q (List.mem_cons_of_mem _ hq))
/-- a tableswitch's cases, looked through by a program -/
def tswOk (pc : Nat) (dflt lo hi : Int) (offs : Array Int) (cs : List (Int32 × Nat)) (dt : Nat) : Bool :=
  decide ((pc : Int) + dflt = (dt : Int)) && decide (dt < 100000) && decide (hi = lo + offs.size - 1) && decide (-1000 < lo) && decide (hi < 1000) && decide (cs.length = offs.size) &&
  (List.range offs.size).all (fun k => match cs[k]?, offs[k]? with
    | some (c, t), some o => decide (c.toInt = lo + (k : Int)) && decide ((pc : Int) + o = (t : Int)) && decide (t < 100000)
    | _, _ => false)
theorem ok_table (F : Fx E own cc maxL d) {dflt lo hi : Int} {offs : Array Int} {len : Nat} {cs : List (Int32 × Nat)} {dt : Nat} (hd : decode cc pc = .ok (.tableswitch dflt lo hi offs, len)) (hk0 : tswOk pc dflt lo hi offs cs dt = true) (hpc : pc < 100000) : OpOk E toW pc (O_switch cs dt) := by
  refine OpOk.mk (by omega) fun hE K L st S ho hk H locs hP hap hS hL hn ls hl => ?_
  subst hE
  unfold O_switch at ho
  split at ho
  · rename_i x r
    simp only [tswOk, Bool.and_eq_true, decide_eq_true_eq, List.all_eq_true, List.mem_range] at hk0
    obtain ⟨⟨⟨⟨⟨⟨k1, k2⟩, k3⟩, k4⟩, k5⟩, k6⟩, k7⟩ := hk0
    have key : ∀ k : Nat, k < offs.size → ∃ (c : Int32) (t : Nat) (o : Int), cs[k]? = some (c, t) ∧ offs[k]? = some o ∧ c.toInt = lo + (k : Int) ∧ (pc : Int) + o = (t : Int) ∧ t < 100000 := by
      intro k hk
      have h := k7 k hk
      split at h
      · rename_i c t o e1 e2
        simp only [Bool.and_eq_true, decide_eq_true_eq] at h
        exact ⟨c, t, o, e1, e2, h.1.1, h.1.2, h.2⟩
      · cases h
    by_cases hin : x.toInt < lo ∨ hi < x.toInt
    · refine lv_tableOut F.1 F.2.1 hd hin k1 ((hk _ _ _ _ (tsw_out ho ?_)).use k2 hP hap hS hL hn hl)
      intro q hq e
      obtain ⟨k, hk2⟩ := List.getElem?_of_mem hq
      have hlt : k < offs.size := by rw [← k6]; exact (List.getElem?_eq_some_iff.mp hk2).1
      obtain ⟨c, t, o, e1, -, e3, -⟩ := key k hlt
      rw [hk2] at e1
      cases e1
      rw [e, e3] at hin
      omega
    · have h1 : ¬ x.toInt < lo := fun q => hin (Or.inl q)
      have h2 : ¬ hi < x.toInt := fun q => hin (Or.inr q)
      have hlt : (x.toInt - lo).toNat < offs.size := by omega
      obtain ⟨c, t, o, e1, e2, e3, e4, e5⟩ := key _ hlt
      have hc : c = x := Int32.toInt_inj.mp (by rw [e3]; omega)
      subst hc
      refine lv_tableIn F.1 F.2.1 hd h1 h2 e2 e4 ((hk _ _ _ _ (tsw_in ho e1 ?_)).use e5 hP hap hS hL hn hl)
      intro j q hj hq e
      have hlt2 : j < offs.size := by omega
      obtain ⟨c', t', o', f1, -, f3, -⟩ := key j hlt2
      rw [hq] at f1
      cases f1
      have f4 : c.toInt = lo + (j : Int) := by rw [e]; exact f3
      omega
  · exact ho.elim
/-- a lookupswitch's -/
def lswOk (pc : Nat) (dflt : Int) (ps : List (Int × Int)) (cs : List (Int32 × Nat)) (dt : Nat) : Bool :=
  match ps, cs with
  | [], [] => decide ((pc : Int) + dflt = (dt : Int)) && decide (dt < 100000)
  | (a, o) :: ps, (c, t) :: cs => decide (c.toInt = a) && decide ((pc : Int) + o = (t : Int)) && decide (t < 100000) && lswOk pc dflt ps cs dt
  | _, _ => false
theorem lsw_go {pc dt : Nat} {K : Kt σ} {L : xL} {r : List Value} {S : σ} {x : Int32} {dflt : Int} : ∀ {ps : List (Int × Int)} {cs : List (Int32 × Nat)}, lswOk pc dflt ps cs dt = true → tsw K dt L r S x cs → ∃ t : Nat, t < 100000 ∧ (pc : Int) + Op.lookupswitch.offset ps dflt x.toInt = (t : Int) ∧ K t L r S
  | [], [], h, ho => by
    simp only [lswOk, Bool.and_eq_true, decide_eq_true_eq] at h
    exact ⟨dt, h.2, h.1, ho⟩
  | [], _ :: _, h, _ => by simp [lswOk] at h
  | _ :: _, [], h, _ => by simp [lswOk] at h
  | (a, o) :: ps, (c, t) :: cs, h, ho => by
    simp only [lswOk, Bool.and_eq_true, decide_eq_true_eq] at h
    obtain ⟨⟨⟨h1, h2⟩, h3⟩, h4⟩ := h
    by_cases hx : x = c
    · refine ⟨t, h3, ?_, ho.1 hx⟩
      rw [Op.lookupswitch.offset_cons, if_pos (by rw [hx, h1])]
      exact h2
    · rw [lv_osw hx h1]
      exact lsw_go h4 (ho.2 hx)
theorem ok_lookup (F : Fx E own cc maxL d) {dflt : Int} {ps : Array (Int × Int)} {len : Nat} {cs : List (Int32 × Nat)} {dt : Nat} (hd : decode cc pc = .ok (.lookupswitch dflt ps, len)) (hp : (ps.toList.zip (ps.toList.drop 1)).all (fun (a, next) => a.1 < next.1) = true) (hk0 : lswOk pc dflt ps.toList cs dt = true) (hpc : pc < 100000) : OpOk E toW pc (O_switch cs dt) := by
  refine OpOk.mk (by omega) fun hE K L st S ho hk H locs hP hap hS hL hn ls hl => ?_
  subst hE
  unfold O_switch at ho
  split at ho
  · rename_i x r
    obtain ⟨t, h1, h2, h3⟩ := lsw_go hk0 ho
    exact lv_lookup F.1 F.2.1 hd hp rfl h2 ((hk _ _ _ _ h3).use h1 hP hap hS hL hn hl)
  · exact ho.elim
end OPS
end
section
/-! ===== operations on cells ===== -/
def getF (w : xW) (ci id slot : Nat) : Option Value := match w[id]? with
  | some (.inr (.inl (c, fs))) => if c = ci then fs[slot]? else none
  | _ => none
def getA (w : xW) (id : Nat) : Option (Nat × Nat × (Nat → Int32)) := match w[id]? with
  | some (.inl a) => some a
  | _ => none
def getR (w : xW) (id : Nat) : Option (Nat × (Nat → Option Nat)) := match w[id]? with
  | some (.inr (.inr a)) => some a
  | _ => none
theorem getF_some {w : xW} {ci id slot : Nat} {v : Value} (h : getF w ci id slot = some v) : ∃ fs, w[id]? = some (.inr (.inl (ci, fs))) ∧ fs[slot]? = some v := by
  unfold getF at h
  split at h
  · rename_i c fs hw
    split at h
    · rename_i e; subst e; exact ⟨fs, hw, h⟩
    · cases h
  · cases h
theorem getA_some {w : xW} {id : Nat} {a : Nat × Nat × (Nat → Int32)} (h : getA w id = some a) : w[id]? = some (.inl a) := by
  unfold getA at h
  split at h
  · rename_i hw; cases h; exact hw
  · cases h
theorem getR_some {w : xW} {id : Nat} {a : Nat × (Nat → Option Nat)} (h : getR w id = some a) : w[id]? = some (.inr (.inr a)) := by
  unfold getR at h
  split at h
  · rename_i hw; cases h; exact hw
  · cases h
/-- a state's function that puts a number into a field: what it does to the world -/
def putOk {σ : Type} (toW : σ → xW) (ci slot : Nat) (pf : σ → Nat → Int32 → Option σ) : Prop :=
  ∀ S id x S', pf S id x = some S' → ∃ fs, (toW S)[id]? = some (.inr (.inl (ci, fs))) ∧ slot < fs.length ∧ toW S' = (toW S).set id (.inr (.inl (ci, fs.set slot (.int x))))
/-- .. that puts an array's new contents -/
def sarOk {σ : Type} (toW : σ → xW) (sa : σ → Nat → (Nat → Int32) → Option σ) : Prop :=
  ∀ S id g S' t n f, sa S id g = some S' → getA (toW S) id = some (t, n, f) → toW S' = (toW S).set id (.inl (t, n, g))
/-- a place of a class that a field link names -/
def fldOk (own : String) (ix ci slot : Nat) : Bool := match classes[ci]? with
  | some q => decide (slot < q.2.2) && lw_tbl.contains (Cond.fieldLink own ix (q.2.1 slot).1 (q.2.1 slot).2.1 (q.2.1 slot).2.2.1)
  | none => false
theorem fldOk_spec {own : String} {ix ci slot : Nat} (h : fldOk own ix ci slot = true) : ∃ (C : String) (T : u_T) (N : Nat), classes[ci]? = some (C, T, N) ∧ slot < N ∧ Cond.fieldLink own ix (T slot).1 (T slot).2.1 (T slot).2.2.1 ∈ WS := by
  unfold fldOk at h
  split at h
  · rename_i q hq
    obtain ⟨C, T, N⟩ := q
    rw [Bool.and_eq_true, decide_eq_true_eq] at h
    exact ⟨C, T, N, hq, h.1, ws_in (by simpa using h.2) rfl⟩
  · cases h
theorem classes_ty {ci slot : Nat} {C : String} {T : u_T} {N : Nat} (h : classes[ci]? = some (C, T, N)) (hs : slot < N) : parseFieldDescriptor (T slot).2.2.1 = some (tyOf ci slot) := (xcls h).2.1 slot hs
theorem arrV_congr (cI : ClassId) (N : Nat) (f g : Nat → Value) (h : ∀ j, j < N → f j = g j) : arrV cI N f = arrV cI N g := by
  unfold arrV
  congr 1
  apply Array.ext
  · simp
  · intro i h1 h2
    simp at h1
    simp [h i h1]
section HEAP
variable {σ : Type} {E : En} {own : String} {cc : ByteArray} {maxL d pc : Nat} {toW : σ → xW}
def O_getf (toW : σ → xW) (ci slot : Nat) : Op σ := fun K pc L st S => match st with
  | .ref id :: r => (match getF (toW S) ci id slot with
    | some v => K (pc + 3) L (v :: r) S
    | none => False)
  | _ => False
theorem ok_getf (F : Fx E own cc maxL d) {ix ci slot : Nat} (hf : fldOk own ix ci slot = true) (hd : decode cc pc = .ok (.getfield ix, 3)) (hpc : pc + 3 < 100000) : OpOk E toW pc (O_getf toW ci slot) := by
  refine OpOk.mk (by omega) fun hE K L st S ho hk H locs hP hap hS hL hn ls hl => ?_
  subst hE
  unfold O_getf at ho
  split at ho
  · rename_i id r
    split at ho
    · rename_i v hv
      obtain ⟨C, T, N, hc, hs, hw⟩ := fldOk_spec hf
      obtain ⟨fs, h1, h2⟩ := getF_some hv
      obtain ⟨c1, c2, c3⟩ := xcls hc
      exact va_get (D := (_, _)) (C := C) (T := T) (N := N) (ci := ci) (fs := fs.map (xv _)) F.1 F.2.1 F.2.2.2.2.2.1 c1 F.2.2.2.2.1 F.2.2.2.2.2.2.2.1.1 hP id (by rw [xw_get, h1]; rfl) hc slot hs (F.2.2.2.2.2.1 _ hw) (fun _ h9 => h9) (by rw [List.getElem?_map, h2]; rfl) hd ((hk _ _ _ _ ho).use hpc hP hap hS hL hn hl)
    · exact ho.elim
  · exact ho.elim
/-- a field of a number: of type int -/
def O_puti (pf : σ → Nat → Int32 → Option σ) : Op σ := fun K pc L st S => match st with
  | .int x :: .ref id :: r => (match pf S id x with
    | some S' => K (pc + 3) L r S'
    | none => False)
  | _ => False
/-- .. of type boolean or char -/
def O_putn (ty : FieldType) (pf : σ → Nat → Int32 → Option σ) : Op σ := fun K pc L st S => match st with
  | .int x :: .ref id :: r => (narrow ty (.int x) = .int x ∧ fits ty (.int x) = true) ∧ (match pf S id x with
    | some S' => K (pc + 3) L r S'
    | none => False)
  | _ => False
theorem xap_len {A : Nat → Prop} {ad : Nat → Nat} {w w' : xW} (h : xap A ad w.length) (e : w'.length = w.length) : xap A ad w'.length := by rw [e]; exact h
theorem put_go {p : Program} {l : Launch} {e : Jvm.Env} {R : Room} {s : State} {m : MethodId} {args : Array Value} {below : List Frame} {meth : Method} {c : Code} {Qc : Array Value → State → Outcome → State → Prop} {Q : State → Prop} {cs : Nat × Nat} {A : Nat → Prop} {nL : Nat} {D : xD} {ad : Nat → Nat}
    (F : Fx (p, l, e, R, s, m, args, below, meth, c, Qc, Q, cs, A, nL, D, ad) own cc maxL d) {ix ci slot : Nat} {pf : σ → Nat → Int32 → Option σ} (hp : putOk toW ci slot pf) (hfin : ∀ C T N, classes[ci]? = some (C, T, N) → (T slot).2.2.2 = false) (hf : fldOk own ix ci slot = true) (hd : decode cc pc = .ok (.putfield ix, 3)) (hpc : pc + 3 < 100000)
    {S S' : σ} {id : Nat} {x : Int32} {r : List Value} {L : xL} (h1 : pf S id x = some S') (hn1 : narrow (tyOf ci slot) (.int x) = .int x) (hn2 : fits (tyOf ci slot) (.int x) = true) (hk : Gd (p, l, e, R, s, m, args, below, meth, c, Qc, Q, cs, A, nL, D, ad) toW (pc + 3) L r S')
    {H : Heap} {locs : List Loc} (hP : va_P (D.1, D.2.1) classes (xw D ad (toW S)) H) (hap : xap A ad (toW S).length) (hS : va_S A s.heap H locs) (hL : L.length = nL) (hn : xno L) {ls : Array Slot} (hl : lv_has ls nL (lvp ad 0 L)) :
    W p l e R s m args below meth c H locs cs.1 cs.2 Q (F0 m pc ls ((Value.int x :: Value.ref id :: r).map (xv ad))) := by
  obtain ⟨C, T, N, hc, hs, hw⟩ := fldOk_spec hf
  obtain ⟨fs, g1, g2, g3⟩ := hp S id x S' h1
  obtain ⟨c1, c2, c3⟩ := xcls hc
  have hw1 : xw D ad (toW S') = (xw D ad (toW S)).set id (ad id, .inr (ci, (fs.map (xv ad)).set slot (.int x))) := by
    rw [g3, xw_set]
    simp [xc, xv]
  refine va_put (D := (D.1, D.2.1)) (C := C) (T := T) (N := N) (ci := ci) (fs := fs.map (xv ad)) (v := .int x) F.1 F.2.1 F.2.2.2.2.2.1 c1 (tyOf ci) c2 c3 F.2.2.2.2.1 F.2.2.2.2.2.2.2.1.1 hP (xap_D D hap) hS id (by rw [xw_get, g1]; rfl) hc slot hs (F.2.2.2.2.2.1 _ hw) (fun _ h9 => h9) (hfin _ _ _ hc) (c2 slot hs) hn1 hn2 (by simpa using g2) hd (fun H1 locs1 hP1 hD1 hS1 => ?_)
  rw [← hw1] at hP1
  exact hk.use hpc hP1 (xap_len hap (by rw [g3]; simp)) hS1 hL hn hl
theorem ok_puti (F : Fx E own cc maxL d) {ix ci slot : Nat} {pf : σ → Nat → Int32 → Option σ} (hp : putOk toW ci slot pf) (hfin : ∀ C T N, classes[ci]? = some (C, T, N) → (T slot).2.2.2 = false) (hty : tyOf ci slot = .int) (hf : fldOk own ix ci slot = true) (hd : decode cc pc = .ok (.putfield ix, 3)) (hpc : pc + 3 < 100000) : OpOk E toW pc (O_puti pf) := by
  refine OpOk.mk (by omega) fun hE K L st S ho hk H locs hP hap hS hL hn ls hl => ?_
  subst hE
  unfold O_puti at ho
  split at ho
  · split at ho
    · rename_i S' h1
      exact put_go F hp hfin hf hd hpc h1 (by rw [hty]; rfl) (by rw [hty]; rfl) (hk _ _ _ _ ho) hP hap hS hL hn hl
    · exact ho.elim
  · exact ho.elim
theorem ok_putn (F : Fx E own cc maxL d) {ix ci slot : Nat} {ty : FieldType} {pf : σ → Nat → Int32 → Option σ} (hp : putOk toW ci slot pf) (hfin : ∀ C T N, classes[ci]? = some (C, T, N) → (T slot).2.2.2 = false) (hty : tyOf ci slot = ty) (hf : fldOk own ix ci slot = true) (hd : decode cc pc = .ok (.putfield ix, 3)) (hpc : pc + 3 < 100000) : OpOk E toW pc (O_putn ty pf) := by
  refine OpOk.mk (by omega) fun hE K L st S ho hk H locs hP hap hS hL hn ls hl => ?_
  subst hE
  unfold O_putn at ho
  split at ho
  · obtain ⟨⟨n1, n2⟩, ho⟩ := ho
    split at ho
    · rename_i S' h1
      exact put_go F hp hfin hf hd hpc h1 (by rw [hty]; exact n1) (by rw [hty]; exact n2) (hk _ _ _ _ ho) hP hap hS hL hn hl
    · exact ho.elim
  · exact ho.elim
-- arrays of numbers
def O_ald (toW : σ → xW) (tag : Nat) : Op σ := fun K pc L st S => match st with
  | .int i :: .ref id :: r => (match getA (toW S) id with
    | some (t, n, f) => t = tag ∧ vp_in i n ∧ K (pc + 1) L (.int (f i.toNatClampNeg) :: r) S
    | none => False)
  | _ => False
theorem ok_iald (F : Fx E own cc maxL d) (hd : decode cc pc = .ok (.iaload, 1)) (hpc : pc + 1 < 100000) : OpOk E toW pc (O_ald toW 0) := by
  refine OpOk.mk (by omega) fun hE K L st S ho hk H locs hP hap hS hL hn ls hl => ?_
  subst hE
  unfold O_ald at ho
  split at ho
  · rename_i i id r
    split at ho
    · rename_i t n f hv
      obtain ⟨rfl, h2, h3⟩ := ho
      exact va_iald F.1 F.2.1 F.2.2.2.2.2.2.2.1.1 hP id 0 (by rw [xw_get, getA_some hv]; rfl) (xty_get _ (by decide)) h2 hd ((hk _ _ _ _ h3).use hpc hP hap hS hL hn hl)
    · exact ho.elim
  · exact ho.elim
theorem ok_zald (F : Fx E own cc maxL d) (hd : decode cc pc = .ok (.baload, 1)) (hpc : pc + 1 < 100000) : OpOk E toW pc (O_ald toW 1) := by
  refine OpOk.mk (by omega) fun hE K L st S ho hk H locs hP hap hS hL hn ls hl => ?_
  subst hE
  unfold O_ald at ho
  split at ho
  · rename_i i id r
    split at ho
    · rename_i t n f hv
      obtain ⟨rfl, h2, h3⟩ := ho
      exact va_zald F.1 F.2.1 F.2.2.2.2.2.2.2.1.1 hP id 1 (by rw [xw_get, getA_some hv]; rfl) (xty_get _ (by decide)) h2 hd ((hk _ _ _ _ h3).use hpc hP hap hS hL hn hl)
    · exact ho.elim
  · exact ho.elim
theorem ok_cald (F : Fx E own cc maxL d) (hd : decode cc pc = .ok (.caload, 1)) (hpc : pc + 1 < 100000) : OpOk E toW pc (O_ald toW 2) := by
  refine OpOk.mk (by omega) fun hE K L st S ho hk H locs hP hap hS hL hn ls hl => ?_
  subst hE
  unfold O_ald at ho
  split at ho
  · rename_i i id r
    split at ho
    · rename_i t n f hv
      obtain ⟨rfl, h2, h3⟩ := ho
      exact va_cald F.1 F.2.1 F.2.2.2.2.2.2.2.1.1 hP id 2 (by rw [xw_get, getA_some hv]; rfl) (xty_get _ (by decide)) h2 hd ((hk _ _ _ _ h3).use hpc hP hap hS hL hn hl)
    · exact ho.elim
  · exact ho.elim
def xnar (tag : Nat) (x : Int32) : Int32 := match tag with
  | 0 => x
  | 1 => vp_nar .boolean x
  | _ => vp_nar .char x
def O_ast (toW : σ → xW) (tag : Nat) (sa : σ → Nat → (Nat → Int32) → Option σ) : Op σ := fun K pc L st S => match st with
  | .int x :: .int i :: .ref id :: r => (match getA (toW S) id with
    | some (t, n, f) => t = tag ∧ vp_in i n ∧ (match sa S id (upd f i.toNatClampNeg (xnar tag x)) with
      | some S' => K (pc + 1) L r S'
      | none => False)
    | none => False)
  | _ => False
theorem ok_iast (F : Fx E own cc maxL d) {sa : σ → Nat → (Nat → Int32) → Option σ} (hp : sarOk toW sa) (hd : decode cc pc = .ok (.iastore, 1)) (hpc : pc + 1 < 100000) : OpOk E toW pc (O_ast toW 0 sa) := by
  refine OpOk.mk (by omega) fun hE K L st S ho hk H locs hP hap hS hL hn ls hl => ?_
  subst hE
  unfold O_ast at ho
  split at ho
  · rename_i x i id r
    split at ho
    · rename_i t n f hv
      obtain ⟨rfl, h2, h3⟩ := ho
      split at h3
      · rename_i S' h4
        have g3 := hp _ _ _ _ _ _ _ h4 hv
        refine va_iast F.1 F.2.1 F.2.2.2.2.2.2.2.1.1 hP (xap_D _ hap) hS id 0 (by rw [xw_get, getA_some hv]; rfl) (xty_get _ (by decide)) h2 hd (fun H1 locs1 hP1 hD1 hS1 => ?_)
        refine (hk _ _ _ _ h3).use hpc ?_ (xap_len hap (by rw [g3]; simp)) hS1 hL hn hl
        rw [g3, xw_set]
        exact hP1
      · exact h3.elim
    · exact ho.elim
  · exact ho.elim
theorem ok_zast (F : Fx E own cc maxL d) {sa : σ → Nat → (Nat → Int32) → Option σ} (hp : sarOk toW sa) (hd : decode cc pc = .ok (.bastore, 1)) (hpc : pc + 1 < 100000) : OpOk E toW pc (O_ast toW 1 sa) := by
  refine OpOk.mk (by omega) fun hE K L st S ho hk H locs hP hap hS hL hn ls hl => ?_
  subst hE
  unfold O_ast at ho
  split at ho
  · rename_i x i id r
    split at ho
    · rename_i t n f hv
      obtain ⟨rfl, h2, h3⟩ := ho
      split at h3
      · rename_i S' h4
        have g3 := hp _ _ _ _ _ _ _ h4 hv
        refine va_zast F.1 F.2.1 F.2.2.2.2.2.2.2.1.1 hP (xap_D _ hap) hS id 1 (by rw [xw_get, getA_some hv]; rfl) (xty_get _ (by decide)) h2 hd (fun H1 locs1 hP1 hD1 hS1 => ?_)
        refine (hk _ _ _ _ h3).use hpc ?_ (xap_len hap (by rw [g3]; simp)) hS1 hL hn hl
        rw [g3, xw_set]
        exact hP1
      · exact h3.elim
    · exact ho.elim
  · exact ho.elim
theorem ok_cast (F : Fx E own cc maxL d) {sa : σ → Nat → (Nat → Int32) → Option σ} (hp : sarOk toW sa) (hd : decode cc pc = .ok (.castore, 1)) (hpc : pc + 1 < 100000) : OpOk E toW pc (O_ast toW 2 sa) := by
  refine OpOk.mk (by omega) fun hE K L st S ho hk H locs hP hap hS hL hn ls hl => ?_
  subst hE
  unfold O_ast at ho
  split at ho
  · rename_i x i id r
    split at ho
    · rename_i t n f hv
      obtain ⟨rfl, h2, h3⟩ := ho
      split at h3
      · rename_i S' h4
        have g3 := hp _ _ _ _ _ _ _ h4 hv
        refine va_cast F.1 F.2.1 F.2.2.2.2.2.2.2.1.1 hP (xap_D _ hap) hS id 2 (by rw [xw_get, getA_some hv]; rfl) (xty_get _ (by decide)) h2 hd (fun H1 locs1 hP1 hD1 hS1 => ?_)
        refine (hk _ _ _ _ h3).use hpc ?_ (xap_len hap (by rw [g3]; simp)) hS1 hL hn hl
        rw [g3, xw_set]
        exact hP1
      · exact h3.elim
    · exact ho.elim
  · exact ho.elim
-- an array of references, read
def O_aald (toW : σ → xW) : Op σ := fun K pc L st S => match st with
  | .int i :: .ref id :: r => (match getR (toW S) id with
    | some (n, f) => vp_in i n ∧ (match f i.toNatClampNeg with
      | some k => K (pc + 1) L (.ref k :: r) S
      | none => False)
    | none => False)
  | _ => False
theorem ok_aald (F : Fx E own cc maxL d) (hd : decode cc pc = .ok (.aaload, 1)) (hpc : pc + 1 < 100000) : OpOk E toW pc (O_aald toW) := by
  refine OpOk.mk (by omega) fun hE K L st S ho hk H locs hP hap hS hL hn ls hl => ?_
  subst hE
  unfold O_aald at ho
  split at ho
  · rename_i i id r
    split at ho
    · rename_i n f hv
      obtain ⟨h2, h3⟩ := ho
      split at h3
      · rename_i k hfk
        refine va_aldq (C := RX4) F.1 F.2.1 F.2.2.2.2.2.2.2.1.1 hP id 3 (by rw [xw_get, getR_some hv]; rfl) (xty_get _ (t := 3) (by decide)) h2 hd ?_
        rw [hfk]
        exact (hk _ _ _ _ h3).use hpc hP hap hS hL hn hl
      · exact h3.elim
    · exact ho.elim
  · exact ho.elim
/-- .. written: an object of class Station -/
def sarqOk {σ : Type} (toW : σ → xW) (sa : σ → Nat → (Nat → Option Nat) → Option σ) : Prop :=
  ∀ S id g S' n f, sa S id g = some S' → getR (toW S) id = some (n, f) → toW S' = (toW S).set id (.inr (.inr (n, g)))
def O_aast (toW : σ → xW) (sa : σ → Nat → (Nat → Option Nat) → Option σ) : Op σ := fun K pc L st S => match st with
  | .ref v :: .int i :: .ref id :: r => (match getR (toW S) id with
    | some (n, f) => vp_in i n ∧ (∃ fs, (toW S)[v]? = some (.inr (.inl (4, fs)))) ∧ (match sa S id (va_up f i.toNatClampNeg (some v)) with
      | some S' => K (pc + 1) L r S'
      | none => False)
    | none => False)
  | _ => False
theorem va_up_map {ad : Nat → Nat} (f : Nat → Option Nat) (k v : Nat) : (fun j => (va_up f k (some v) j).map ad) = va_up (fun j => (f j).map ad) k (some (ad v)) := by
  funext j
  simp only [va_up]
  split <;> rfl
theorem ok_aast (F : Fx E own cc maxL d) {sa : σ → Nat → (Nat → Option Nat) → Option σ} (hp : sarqOk toW sa) (hd : decode cc pc = .ok (.aastore, 1)) (hpc : pc + 1 < 100000) : OpOk E toW pc (O_aast toW sa) := by
  refine OpOk.mk (by omega) fun hE K L st S ho hk H locs hP hap hS hL hn ls hl => ?_
  subst hE
  unfold O_aast at ho
  split at ho
  · rename_i v i id r
    split at ho
    · rename_i n f hv
      obtain ⟨h2, ⟨fs, hfs⟩, h3⟩ := ho
      split at h3
      · rename_i S' h4
        have g3 := hp _ _ _ _ _ _ h4 hv
        refine va_astq (r := (RX4, TX4, 17)) F.1 F.2.1 F.2.2.2.2.2.2.2.1.1 hP (xap_D _ hap) hS id 3 v 4 (by rw [xw_get, getR_some hv]; rfl) (xty_get _ (t := 3) (by decide)) (by rw [xw_get, hfs]; rfl) rfl h2 hd (fun H1 locs1 hP1 hD1 hS1 => ?_)
        refine (hk _ _ _ _ h3).use hpc ?_ (xap_len hap (by rw [g3]; simp)) hS1 hL hn hl
        rw [g3, xw_set]
        simp only [xc, va_up_map]
        exact hP1
      · exact h3.elim
    · exact ho.elim
  · exact ho.elim
-- Math.min, Math.max
def O_min : Op σ := fun K pc L st S => match st with
  | .int y :: .int x :: r => r.length ≤ 4 ∧ K (pc + 3) L (.int (if y < x then y else x) :: r) S
  | _ => False
def O_max : Op σ := fun K pc L st S => match st with
  | .int y :: .int x :: r => r.length ≤ 4 ∧ K (pc + 3) L (.int (if x < y then y else x) :: r) S
  | _ => False
theorem cat_sum (ad : Nat → Nat) : ∀ (r : List Value), ((r.map (xv ad)).map fun v => v.category).sum ≤ 2 * r.length
  | [] => by simp
  | v :: r => by
    have h := cat_sum ad r
    have h2 : v.category ≤ 2 := by cases v <;> simp [Value.category]
    simp only [List.map_cons, List.sum_cons, List.length_cons, xv_cat]
    omega
theorem ok_min (F : Fx E own cc maxL d) {ix : Nat} (hw : wsHas [Cond.methodLink own ix Lib.Math.min.name, Cond.static Lib.Math.min.name, Cond.initialized "java/lang/Math", Cond.code Lib.Math.min.name Lib.Math.min.code 2 (some .int)] = true) (hdd : 1 ≤ d) (hd : decode cc pc = .ok (.invokestatic ix, 3)) (hpc : pc + 3 < 100000) : OpOk E toW pc O_min := by
  refine OpOk.mk (by omega) fun hE K L st S ho hk H locs hP hap hS hL hn ls hl => ?_
  subst hE
  unfold O_min at ho
  split at ho
  · rename_i y x r
    obtain ⟨h1, h2, h3, h4, h5, h6, h7, h8, h9, h10, h11, h12, h13⟩ := id F
    have hz := fun w (hh : w ∈ _) => h6 w (wsHas_mem hw hh)
    have hc := cat_sum (ad := by assumption) r
    exact va_mmin h1 h2 (by rw [h3]; exact hl.1.symm) h5 (hz _ (by simp)) (hz _ (by simp)) (hz _ (by simp)) (hz _ (by simp)) (by omega) (by omega) h10 h11 hd ((hk _ _ _ _ ho.2).use hpc hP hap hS hL hn hl)
  · exact ho.elim
theorem ok_max (F : Fx E own cc maxL d) {ix : Nat} (hw : wsHas [Cond.methodLink own ix Lib.Math.max.name, Cond.static Lib.Math.max.name, Cond.initialized "java/lang/Math", Cond.code Lib.Math.max.name Lib.Math.max.code 2 (some .int)] = true) (hdd : 1 ≤ d) (hd : decode cc pc = .ok (.invokestatic ix, 3)) (hpc : pc + 3 < 100000) : OpOk E toW pc O_max := by
  refine OpOk.mk (by omega) fun hE K L st S ho hk H locs hP hap hS hL hn ls hl => ?_
  subst hE
  unfold O_max at ho
  split at ho
  · rename_i y x r
    obtain ⟨h1, h2, h3, h4, h5, h6, h7, h8, h9, h10, h11, h12, h13⟩ := id F
    have hz := fun w (hh : w ∈ _) => h6 w (wsHas_mem hw hh)
    have hc := cat_sum (ad := by assumption) r
    exact va_mmax h1 h2 (by rw [h3]; exact hl.1.symm) h5 (hz _ (by simp)) (hz _ (by simp)) (hz _ (by simp)) (hz _ (by simp)) (by omega) (by omega) h10 h11 hd ((hk _ _ _ _ ho.2).use hpc hP hap hS hL hn hl)
  · exact ho.elim
-- System.arraycopy of a whole array into one as long
def O_acopy (toW : σ → xW) (sa : σ → Nat → (Nat → Int32) → Option σ) : Op σ := fun K pc L st S => match st with
  | .int n :: .int dp :: .ref a :: .int sp :: .ref a0 :: r => (match getA (toW S) a0, getA (toW S) a with
    | some (t0, n0, f), some (t1, n1, _) => (t0 = t1 ∧ t1 < 3 ∧ n0 = n1 ∧ sp = 0 ∧ dp = 0 ∧ n.toNatClampNeg = n1 ∧ ¬ n < 0 ∧ r.length ≤ 4) ∧ (∀ i, i < n1 → fits (tagTy t1) (.int (f i)) = true) ∧ (match sa S a f with
      | some S' => K (pc + 3) L r S'
      | none => False)
    | _, _ => False)
  | _ => False
theorem ok_acopy (F : Fx E own cc maxL d) {ix : Nat} {sa : σ → Nat → (Nat → Int32) → Option σ} (hp : sarOk toW sa) (hw : wsHas [Cond.methodLink own ix arraycopyName, Cond.native arraycopyName, Cond.static arraycopyName, Cond.initialized "java/lang/System"] = true) (hdd : 1 ≤ d) (hd : decode cc pc = .ok (.invokestatic ix, 3)) (hpc : pc + 3 < 100000) : OpOk E toW pc (O_acopy toW sa) := by
  refine OpOk.mk (by omega) fun hE K L st S ho hk H locs hP hap hS hL hn ls hl => ?_
  subst hE
  unfold O_acopy at ho
  split at ho
  · rename_i n dp a sp a0 r
    split at ho
    · rename_i t0 n0 f t1 n1 g hv0 hv1
      obtain ⟨⟨rfl, e2, rfl, rfl, rfl, e6, e7, e8⟩, hfit, ho⟩ := ho
      split at ho
      · rename_i S' h4
        have g3 := hp _ _ _ _ _ _ _ h4 hv1
        obtain ⟨h1, h2, h3, h4, h5, h6, h7, h8, h9, h10, h11, h12, h13⟩ := id F
        have hz := fun w (hh : w ∈ _) => h6 w (wsHas_mem hw hh)
        have hc := cat_sum (ad := by assumption) r
        have hnw : nativeFrameWords "java/lang/System" "arraycopy" 5 + 11 ≤ 28 := by decide +kernel
        have hpr : refKind (tagTy t0) = false := by
          match t0, e2 with
          | 0, _ => rfl
          | 1, _ => rfl
          | 2, _ => rfl
        refine va_copyi h1 h2 (by rw [h3]; exact hl.1.symm) h5 (hz _ (by simp)) (hz _ (by simp)) (hz _ (by simp)) (hz _ (by simp)) h8.1 hP (xap_D _ hap) hS a0 a t0 t0 (by rw [xw_get, getA_some hv0]; rfl) (by rw [xw_get, getA_some hv1]; rfl) (xty_get _ (by omega)) (xty_get _ (by omega)) hpr (by decide) (by decide) e7 (by rw [e6]; simp) (by rw [e6]; simp) (fun i hi => by rw [e6] at hi; simpa using hfit i hi) (by omega) (by omega) hd (fun H1 locs1 hP1 hD1 hS1 => ?_)
        refine (hk _ _ _ _ ho).use hpc ?_ (xap_len hap (by rw [g3]; simp)) hS1 hL hn hl
        rw [g3, xw_set]
        intro k q hq
        by_cases hka : a = k
        · subst hka
          have hlt : a < (toW S).length := (List.getElem?_eq_some_iff.mp (getA_some hv1)).1
          have h9' := hP1 a _ (List.getElem?_set_self (by rw [xw_len]; exact hlt))
          rw [List.getElem?_set_self (by rw [xw_len]; exact hlt)] at hq
          cases hq
          show H1[_]? = _
          refine Eq.trans h9' (congrArg some ?_)
          dsimp only
          rw [vp_cell_i, vp_cell_i]
          refine arrV_congr _ _ _ _ fun j hj => ?_
          simp only [va_cpy]
          rw [if_pos ⟨Nat.zero_le _, by rw [e6]; simpa using hj⟩]
          simp
        · refine hP1 k q ?_
          rw [List.getElem?_set_ne hka] at hq ⊢
          exact hq
      · exact ho.elim
    · exact ho.elim
  · exact ho.elim
-- the ends
def O_iret : Op σ := fun K _ _ st S => match st with
  | [.int x] => K 100000 [] [.int x] S
  | _ => False
def O_zret : Op σ := fun K _ _ st S => match st with
  | [.int x] => narrow .boolean (.int x) = .int x ∧ K 100000 [] [.int x] S
  | _ => False
def O_vret : Op σ := fun K _ _ st S => match st with
  | [] => K 100000 [] [] S
  | _ => False
theorem ok_iret (F : Fx E own cc maxL d) (G : Fr E (some .int)) (hd : decode cc pc = .ok (.ireturn, 1)) (hpc : pc < 100000) : OpOk E toW pc O_iret := by
  refine OpOk.mk hpc fun hE K L st S ho hk H locs hP hap hS hL hn ls hl => ?_
  subst hE
  unfold O_iret at ho
  split at ho
  · obtain ⟨G1, rfl⟩ := id G
    exact W.iret F.1 F.2.1 G1 (fun t ht hW => (hk _ _ _ _ ho H locs hP hap hS).1 rfl t ht hW) hS.2.2 hd (hlocks := F.2.2.2.2.2.2.1)
  · exact ho.elim
theorem ok_zret (F : Fx E own cc maxL d) (G : Fr E (some .boolean)) (hd : decode cc pc = .ok (.ireturn, 1)) (hpc : pc < 100000) : OpOk E toW pc O_zret := by
  refine OpOk.mk hpc fun hE K L st S ho hk H locs hP hap hS hL hn ls hl => ?_
  subst hE
  unfold O_zret at ho
  split at ho
  · obtain ⟨G1, rfl⟩ := id G
    exact W.zret F.1 F.2.1 G1 ho.1 (fun t ht hW => (hk _ _ _ _ ho.2 H locs hP hap hS).1 rfl t ht hW) hS.2.2 hd (hlocks := F.2.2.2.2.2.2.1)
  · exact ho.elim
theorem ok_vret (F : Fx E own cc maxL d) (G : Fr E none) (hd : decode cc pc = .ok (.return_, 1)) (hpc : pc < 100000) : OpOk E toW pc O_vret := by
  refine OpOk.mk hpc fun hE K L st S ho hk H locs hP hap hS hL hn ls hl => ?_
  subst hE
  unfold O_vret at ho
  split at ho
  · obtain ⟨G1, rfl⟩ := id G
    exact W.vret F.1 F.2.1 G1 (fun t ht hW => (hk _ _ _ _ ho H locs hP hap hS).1 rfl t ht hW) hS.2.2 hd (hlocks := F.2.2.2.2.2.2.1)
  · exact ho.elim
end HEAP
end
section
/-! ===== contracts, calls, the walk by a program ===== -/
def rmd (d : Nat) : Room := { frames := d, cells := 0, slots := 0, locals := 36 * d }
def xPre (D : xD) (ad : Nat → Nat) (sz : Nat) (w : xW) : State → Prop := fun U => U.heap.size = sz ∧ va_P (D.1, D.2.1) classes (xw D ad w) U.heap ∧ xKn D U ∧ ∀ i j, i < w.length → j < w.length → ad i = ad j → i = j
def xQ (D : xD) (ad : Nat → Nat) (w w' : xW) (sz : Nat) (r : Option Value) : Array Value → State → Outcome → State → Prop := fun _ st oc t => oc = .returned r ∧ va_P (D.1, D.2.1) classes (xw D ad w') t.heap ∧ va_F (va_A (xw D ad w) sz) st t
/-- method y, called with av on the state P, answers r and leaves P' -/
def Con {τ : Type} (y : MethodName) (cc : ByteArray) (maxL : Nat) (ret : Option FieldType) (d : Nat) (toW : τ → xW) (av : List Value) (P : τ) (r : Option Value) (P' : τ) : Prop :=
  (toW P').length = (toW P).length ∧ ∀ (l : Launch) (D : xD) (ad : Nat → Nat) (sz : Nat), Met l y (.code y cc maxL ret :: WS) (rmd d) (va_Pc (av.map (xv ad)) (xPre D ad sz (toW P))) (xQ D ad (toW P) (toW P') sz r) 0 0 (va_A (xw D ad (toW P)) sz)
def xargs : List Value → xL
  | [] => []
  | .long y :: t => some (.long y) :: none :: xargs t
  | v :: t => some v :: xargs t
def xarg (av : List Value) (n : Nat) : xL := xargs av ++ List.replicate (n - (xargs av).length) none
def xplain : Value → Bool
  | .int _ => true
  | .ref _ => true
  | .long _ => true
  | _ => false
theorem lvp_none (ad : Nat → Nat) : ∀ (n k : Nat), lvp ad k (List.replicate n none) = []
  | 0, _ => rfl
  | n + 1, k => by rw [List.replicate_succ, lvp]; exact lvp_none ad n (k + 1)
theorem lvp_app (ad : Nat → Nat) : ∀ (a b : xL) (k : Nat), lvp ad k (a ++ b) = lvp ad k a ++ lvp ad (k + a.length) b
  | [], b, k => by simp [lvp]
  | none :: t, b, k => by
    show lvp ad (k + 1) (t ++ b) = lvp ad (k + 1) t ++ _
    rw [lvp_app ad t b (k + 1)]
    congr 2
    simp; omega
  | some v :: t, b, k => by
    show (k, xv ad v) :: lvp ad (k + 1) (t ++ b) = (k, xv ad v) :: (lvp ad (k + 1) t ++ _)
    rw [lvp_app ad t b (k + 1)]
    congr 3
    simp; omega
theorem lvp_args (ad : Nat → Nat) : ∀ (av : List Value) (k : Nat), (∀ v ∈ av, xplain v = true) → lvp ad k (xargs av) = lv_args k (av.map (xv ad))
  | [], k, _ => rfl
  | v :: t, k, h => by
    have ht := fun k => lvp_args ad t k (fun u hu => h u (List.mem_cons_of_mem _ hu))
    have hv := h v List.mem_cons_self
    cases v <;> simp only [xplain, Bool.false_eq_true] at hv <;> simp [xargs, lvp, lv_args, xv, Value.category, ht]
theorem lg_sl_cons (v : Value) (t : List Value) : lg_sl (v :: t) = (if v.category = 2 then [.val v, .second] else [.val v]) ++ lg_sl t := by simp [lg_sl]
theorem xargs_len (ad : Nat → Nat) : ∀ (av : List Value), (∀ v ∈ av, xplain v = true) → (lg_sl (av.map (xv ad))).length = (xargs av).length
  | [], _ => rfl
  | v :: t, h => by
    have ht := xargs_len ad t (fun u hu => h u (List.mem_cons_of_mem _ hu))
    have hv := h v List.mem_cons_self
    rw [List.map_cons, lg_sl_cons, List.length_append, ht]
    cases v <;> simp only [xplain, Bool.false_eq_true] at hv <;> simp [xargs, xv, Value.category] <;> omega
theorem xno_mem {v : Value} (hc : v.category = 2) : ∀ (av : List Value), (∀ u ∈ av, xplain u = true) → some v ∈ xargs av → ∃ y, v = .long y
  | [], _, hm => by cases hm
  | a :: t, h, hm => by
    have ha := h a List.mem_cons_self
    have ih := xno_mem hc t (fun u hu => h u (List.mem_cons_of_mem _ hu))
    cases a <;> simp only [xplain, Bool.false_eq_true] at ha <;> simp only [xargs, List.mem_cons, Option.some.injEq, reduceCtorEq, false_or] at hm
    · rcases hm with rfl | hm
      · cases hc
      · exact ih hm
    · rcases hm with rfl | hm
      · exact ⟨_, rfl⟩
      · exact ih hm
    · rcases hm with rfl | hm
      · cases hc
      · exact ih hm
theorem xno_args (av : List Value) (h : ∀ v ∈ av, xplain v = true) (n : Nat) : xno (xargs av ++ List.replicate n none) := by
  intro j v hj hc
  rcases List.mem_append.mp (List.mem_of_getElem? hj) with hm | hm
  · exact xno_mem hc av h hm
  · cases (List.mem_replicate.mp hm).2
/-- a contract, out of a walk from the method's entry -/
theorem Con.of {τ : Type} {y : MethodName} {cc : ByteArray} {maxL d : Nat} {ret : Option FieldType} {toW : τ → xW} {av : List Value} {P P' : τ} {r : Option Value}
    (hy : plainName y.cls = true) (hlen : (toW P').length = (toW P).length) (hpl : av.all xplain = true) (hm : (xargs av).length ≤ maxL) 
    (body : ∀ E : En, Fx E y.cls cc maxL d → Fr E ret → Gd E toW 100000 [] r.toList P' → Gd E toW 0 (xarg av maxL) [] P) : Con y cc maxL ret d toW av P r P' := by
  refine ⟨hlen, fun l D ad sz => ?_⟩
  have hpl' : ∀ v ∈ av, xplain v = true := fun v hv => List.all_eq_true.mp hpl v hv
  refine Met.ofW (cc := cc) (maxL := maxL) (ret := ret) hy rfl ?_
  intro p e s m args below meth c s₁ B hml hv
  obtain ⟨rfl, hsz, hP, hK, hap⟩ := hv
  have hts := atoms_spec (ws := .code y cc maxL ret :: WS) B.pre
  have hown : s.vm.findClass y.cls = some m.cls := findClass_of_methodNamed B.named
  subst hsz
  have hF : Fx (p, l, e, (headSpec (.code y cc maxL ret :: WS) (rmd d)).room, s, m, (av.map (xv ad)).toArray, below, meth, c, xQ D ad (toW P) (toW P') s.heap.size r, MQ below (xQ D ad (toW P) (toW P') s.heap.size r) (av.map (xv ad)).toArray s 0 0 (va_A (xw D ad (toW P)) s.heap.size), (0, 0), va_A (xw D ad (toW P)) s.heap.size, maxL, D, ad) y.cls cc maxL d :=
    ⟨B.exec, B.bytes, hml, rfl, hown, fun w hw => hts w (List.mem_cons_of_mem _ hw), B.notSynchronized, hK, fun q hq => Or.inr hq, Nat.zero_le _, Nat.zero_le _, Nat.le_refl _, Nat.le_refl _⟩
  have hxap : xap (va_A (xw D ad (toW P)) s.heap.size) ad (toW P).length := ⟨hap, fun i hi => by
    obtain ⟨c, hc⟩ : ∃ c, (toW P)[i]? = some c := ⟨_, List.getElem?_eq_getElem hi⟩
    exact Or.inl ⟨i, xc D ad c, by rw [xw_get, hc]; rfl⟩⟩
  have h := body _ hF ⟨B.returns, rfl⟩ (fun H locs hP' _ hS => ⟨fun _ t ht _ => ⟨by cases r <;> rfl, by rw [ht]; exact hP', hS.F ht⟩, fun q => absurd rfl q⟩)
  have hl := lv_entry (av.map (xv ad)) (n := maxL) (by rw [xargs_len ad av hpl']; exact hm)
  rw [lg_entry_eq]
  refine (h s.heap [] hP hxap va_S.rf).2 (by decide) (by simp [xarg]; omega) (xno_args av hpl' _) _ ?_
  rw [show lvp ad 0 (xarg av maxL) = lv_args 0 (av.map (xv ad)) by rw [xarg, lvp_app, lvp_none, List.append_nil, lvp_args ad av 0 hpl']]
  exact hl
/-! a callee's cells among the caller's -/
def xrn (ρ : Nat → Nat) : Value → Value
  | .ref k => .ref (ρ k)
  | v => v
def xcr (ρ : Nat → Nat) : xCell → xCell
  | .inl a => .inl a
  | .inr (.inl (ci, fs)) => .inr (.inl (ci, fs.map (xrn ρ)))
  | .inr (.inr (n, f)) => .inr (.inr (n, fun j => (f j).map ρ))
theorem xc_rn (D : xD) (ad ρ : Nat → Nat) (c : xCell) : xc D ad (xcr ρ c) = xc D (fun i => ad (ρ i)) c := by
  match c with
  | .inl (t, n, f) => rfl
  | .inr (.inl (ci, fs)) =>
    simp only [xcr, xc, List.map_map]
    congr 3
    funext v
    cases v <;> rfl
  | .inr (.inr (n, f)) =>
    simp only [xcr, xc]
    congr 7
    funext j
    cases f j <;> rfl
/-- u at the places ρ of w; u' at the same of w', the rest as it was -/
def Emb (ρ : Nat → Nat) (w w' u u' : xW) : Prop :=
  u'.length = u.length ∧ w'.length = w.length ∧ (∀ i j, i < u.length → j < u.length → ρ i = ρ j → i = j) ∧ (∀ i c, u[i]? = some c → w[ρ i]? = some (xcr ρ c)) ∧ (∀ i c, u'[i]? = some c → w'[ρ i]? = some (xcr ρ c)) ∧
  ∀ j c, w'[j]? = some c → (∃ i, i < u.length ∧ j = ρ i) ∨ (w[j]? = some c ∧ ∀ i, i < u.length → ρ i ≠ j)
theorem Emb.block {b : Nat} {w1 w2 u u' : xW} (hb : w1.length = b) (hl : u'.length = u.length) : Emb (fun i => b + i) (w1 ++ (u.map (xcr (fun i => b + i)) ++ w2)) (w1 ++ (u'.map (xcr (fun i => b + i)) ++ w2)) u u' := by
  subst hb
  refine ⟨hl, by simp [hl], fun i j _ _ h => by dsimp only at h; omega, fun i c h => ?_, fun i c h => ?_, fun j c h => ?_⟩
  · have hi := (List.getElem?_eq_some_iff.mp h).1
    dsimp only
    rw [List.getElem?_append_right (by omega), List.getElem?_append_left (by simp; omega), List.getElem?_map]
    simp [h]
  · have hi := (List.getElem?_eq_some_iff.mp h).1
    dsimp only
    rw [List.getElem?_append_right (by omega), List.getElem?_append_left (by simp; omega), List.getElem?_map]
    simp [h]
  · by_cases h1 : j < w1.length
    · rw [List.getElem?_append_left h1] at h
      exact Or.inr ⟨by rw [List.getElem?_append_left h1]; exact h, fun i _ => by dsimp only; omega⟩
    · by_cases h2 : j < w1.length + u.length
      · exact Or.inl ⟨j - w1.length, by omega, by dsimp only; omega⟩
      · refine Or.inr ⟨?_, fun i hi => by dsimp only; omega⟩
        rw [List.getElem?_append_right (by omega), List.getElem?_append_right (by simp; omega)] at h ⊢
        simpa [hl] using h
/-- no cell at all -/
theorem Emb.none {w : xW} : Emb (fun i => i) w w [] [] := ⟨rfl, rfl, fun i j h => by simp at h, fun i c h => by simp at h, fun i c h => by simp at h, fun j c h => Or.inr ⟨h, fun i hi => by simp at hi⟩⟩
section CALL
variable {p : Program} {l : Launch} {e : Jvm.Env} {R : Room} {s : State} {m : MethodId} {args : Array Value} {below : List Frame} {meth : Method} {c : Code} {H : Heap} {locs : List Loc} {cells slots : Nat} {Q : State → Prop}
theorem x_call {pc : Nat} {ls : Array Slot} {st0 rest : List Value} {Qa : State → Outcome → State → Prop} {free : Addr → Prop} (hr : va_Run p l e R s m args below meth c H locs cells slots 0 0 (F0 m pc ls st0) rest Qa free)
    (kk : ∀ (v : Option Value) (st₀ t : State) (L : List Loc), st₀.heap = H → (∀ q ∈ L, free q.base) → Qa st₀ (.returned v) t → W p l e R s m args below meth c t.heap (locs ++ L) cells slots Q (F0 m (pc + 3) ls (v.toList ++ rest))) : W p l e R s m args below meth c H locs cells slots Q (F0 m pc ls st0) := by
  intro T hT X
  obtain ⟨v, st₀, t, T', L, h0, X', hL, e1, e2, hq, st⟩ := hr T hT X
  obtain ⟨t2, a1, b1⟩ := kk v st₀ t L h0 hL hq T' e1 X'
  exact ⟨t2, st t2 a1, b1⟩
end CALL
section BACK
variable {D : xD} {ad ρ : Nat → Nat} {w w' u u' : xW} {A : Nat → Prop} {H H0 H1 : Heap} {locs L : List Loc}
theorem emb_P (h : Emb ρ w w' u u') (hP : va_P (D.1, D.2.1) classes (xw D ad w) H) : va_P (D.1, D.2.1) classes (xw D (fun i => ad (ρ i)) u) H := by
  intro k q hq
  rw [xw_get] at hq
  cases hu : u[k]? with
  | none => rw [hu] at hq; cases hq
  | some c =>
    rw [hu] at hq
    cases hq
    have h1 := h.2.2.2.1 k c hu
    have h2 := hP (ρ k) (ad (ρ k), xc D ad (xcr ρ c)) (by rw [xw_get, h1]; rfl)
    rw [xc_rn] at h2
    exact h2
theorem emb_A (h : Emb ρ w w' u u') (hap : xap A ad w.length) (hA : ∀ q, H.size ≤ q → A q) : ∀ q, va_A (xw D (fun i => ad (ρ i)) u) H.size q → A q := by
  intro q hq
  rcases hq with ⟨k, ee, hk⟩ | hq
  · rw [xw_get] at hk
    cases hu : u[k]? with
    | none => rw [hu] at hk; cases hk
    | some c =>
      rw [hu] at hk
      cases hk
      exact hap.2 (ρ k) (List.getElem?_eq_some_iff.mp (h.2.2.2.1 k c hu)).1
  · exact hA q hq
theorem emb_back (h : Emb ρ w w' u u') (hap : xap A ad w.length) (hP : va_P (D.1, D.2.1) classes (xw D ad w) H) (hP1 : va_P (D.1, D.2.1) classes (xw D (fun i => ad (ρ i)) u') H1)
    (hk : ∀ q : Nat, q < H.size → ¬ va_A (xw D (fun i => ad (ρ i)) u) H.size q → H1[q]? = H[q]?) : va_P (D.1, D.2.1) classes (xw D ad w') H1 := by
  intro k q hq
  rw [xw_get] at hq
  cases hw : w'[k]? with
  | none => rw [hw] at hq; cases hq
  | some c =>
    rw [hw] at hq
    cases hq
    rcases h.2.2.2.2.2 k c hw with ⟨i, hi, rfl⟩ | ⟨h1, h2⟩
    · have hi' : i < u'.length := by rw [h.1]; exact hi
      have e1 := h.2.2.2.2.1 i u'[i] (List.getElem?_eq_getElem hi')
      rw [hw] at e1
      cases e1
      have h3 := hP1 i (ad (ρ i), xc D (fun i => ad (ρ i)) u'[i]) (by rw [xw_get, List.getElem?_eq_getElem hi']; rfl)
      show va_at _ _ (ad (ρ i), _) _
      rw [xc_rn]
      exact h3
    · have h3 := hP k (ad k, xc D ad c) (by rw [xw_get, h1]; rfl)
      refine h3.kept (hk (ad k) h3.lt fun hA => ?_)
      rcases hA with ⟨i, ee, hi⟩ | hA
      · rw [xw_get] at hi
        cases hu : u[i]? with
        | none => rw [hu] at hi; cases hi
        | some c2 =>
          rw [hu] at hi
          have hi2 : ad (ρ i) = ad k := (Prod.mk.inj (Option.some.inj hi)).1
          have hil := (List.getElem?_eq_some_iff.mp hu).1
          exact h2 i hil (hap.1 _ _ (List.getElem?_eq_some_iff.mp (h.2.2.2.1 i c2 hu)).1 (List.getElem?_eq_some_iff.mp h1).1 hi2)
      · exact absurd h3.lt (by simpa using hA)
end BACK
/-- a method's spec: what a call with av on P answers (a transformer of what is wanted behind it) -/
abbrev Sp (τ : Type) : Type := List Value → τ → (Option Value → τ → Prop) → Prop
def xnum : Option Value → Prop
  | some (.ref _) => False
  | _ => True
theorem xnum_map {r : Option Value} (h : xnum r) (ad : Nat → Nat) : r.toList.map (xv ad) = r.toList := by
  match r, h with
  | none, _ => rfl
  | some (.int _), _ => rfl
  | some (.long _), _ => rfl
  | some (.float _), _ => rfl
  | some (.double _), _ => rfl
  | some .null, _ => rfl
  | some (.retAddr _), _ => rfl
def SpOk {τ : Type} (y : MethodName) (cc : ByteArray) (maxL : Nat) (ret : Option FieldType) (d : Nat) (toW : τ → xW) (sp : Sp τ) : Prop :=
  ∀ av P K, sp av P K → ∃ r P', xnum r ∧ Con y cc maxL ret d toW av P r P' ∧ K r P'
/-- what a call needs of the words, by a program -/
def cokV (own : String) (ix : Nat) (y : MethodName) (cc : ByteArray) (maxL : Nat) (ret : Option FieldType) (n : Nat) : Bool :=
  wsHas [.methodLink own ix y, .instanceMethod y, .selects y.cls y y, .initialized y.cls, .code y cc maxL ret] && decide (y.cls ≠ "java/lang/invoke/MethodHandle" ∧ y.cls ≠ "java/lang/invoke/VarHandle" ∧ (parseMethodDescriptor y.desc).map (fun d => d.parameters.length) = some n ∧ maxL ≤ 17)
def cokS (own : String) (ix : Nat) (y : MethodName) (cc : ByteArray) (maxL : Nat) (ret : Option FieldType) (n : Nat) : Bool :=
  wsHas [.methodLink own ix y, .static y, .initialized y.cls, .code y cc maxL ret] && decide (y.cls ≠ "java/lang/invoke/MethodHandle" ∧ y.cls ≠ "java/lang/invoke/VarHandle" ∧ (parseMethodDescriptor y.desc).map (fun d => d.parameters.length) = some n ∧ maxL ≤ 17)
def cokN (own : String) (ix : Nat) (host : String) (y : MethodName) (cc : ByteArray) (maxL : Nat) (ret : Option FieldType) (n : Nat) : Bool :=
  wsHas [.static y, .initialized y.cls, .code y cc maxL ret] && decide ((own, ix, y, host) ∈ xNestM ∧ y.cls ≠ "java/lang/invoke/MethodHandle" ∧ y.cls ≠ "java/lang/invoke/VarHandle" ∧ (parseMethodDescriptor y.desc).map (fun d => d.parameters.length) = some n ∧ maxL ≤ 17)
theorem ws_GoodIn {l : List Cond} (h : ∀ w ∈ l, w ∈ WS) : GoodIn WS l := fun w hw => ⟨h w hw, good_of_word (ws_good (h w hw))⟩
theorem blind_xPre {av : List Value} {D : xD} {ad : Nat → Nat} {sz : Nat} {w : xW} : FrameBlind (va_Pc av (xPre D ad sz w)) := fun a U g mk q => ⟨q.1, q.2.1, q.2.2.1, q.2.2.2.1.calling g mk a, q.2.2.2.2⟩
section CALLS
variable {σ τ : Type} {E : En} {own : String} {cc : ByteArray} {maxL d pc : Nat} {toW : σ → xW} {toT : τ → xW}
theorem call_after {p : Program} {l : Launch} {e : Jvm.Env} {R : Room} {s : State} {m : MethodId} {args : Array Value} {below : List Frame} {meth : Method} {c : Code} {Qc : Array Value → State → Outcome → State → Prop} {Q : State → Prop} {cs : Nat × Nat} {A : Nat → Prop} {nL : Nat} {D : xD} {ad : Nat → Nat}
    (F : Fx (p, l, e, R, s, m, args, below, meth, c, Qc, Q, cs, A, nL, D, ad) own cc maxL d) {ρ : Nat → Nat} {w w' u u' : xW} (hE : Emb ρ w w' u u') {r : Option Value} (hr : xnum r) {L : xL} {rest : List Value} {S' : σ} (hw' : toW S' = w')
    (hk : Gd (p, l, e, R, s, m, args, below, meth, c, Qc, Q, cs, A, nL, D, ad) toW (pc + 3) L (r.toList ++ rest) S') (hpc : pc + 3 < 100000)
    {H : Heap} {locs : List Loc} (hP : va_P (D.1, D.2.1) classes (xw D ad w) H) (hap : xap A ad w.length) (hS : va_S A s.heap H locs) (hL : L.length = nL) (hn : xno L) {ls : Array Slot} (hl : lv_has ls nL (lvp ad 0 L))
    {a : Array Value} {v : Option Value} {st₀ t : State} {L1 : List Loc} (h0 : st₀.heap = H) (hf : ∀ q ∈ L1, va_A (xw D (fun i => ad (ρ i)) u) H.size q.base) (hq : xQ D (fun i => ad (ρ i)) u u' H.size r a st₀ (.returned v) t) :
    W p l e R s m args below meth c t.heap (locs ++ L1) cs.1 cs.2 Q (F0 m (pc + 3) ls (v.toList ++ rest.map (xv ad))) := by
  obtain ⟨e1, hP1, hz, hkk⟩ := hq
  cases e1
  rw [h0] at hz hkk
  have hA := F.2.2.2.2.2.2.2.2.1
  have hA' := emb_A (D := D) (H := H) hE hap (fun q hq => hA q (Nat.le_trans hS.1 hq))
  have h1 := hk.use hpc (H := t.heap) (locs := locs ++ L1) (by rw [hw']; exact emb_back hE hap hP hP1 hkk) (by rw [hw', hE.2.1]; exact hap) ⟨Nat.le_trans hS.1 hz, fun q g1 g2 => by
    rw [hkk q (Nat.lt_of_lt_of_le g1 hS.1) (fun z => g2 (hA' q z))]
    exact hS.2.1 q g1 g2, fun q hq => by
      rcases List.mem_append.mp hq with g | g
      · exact hS.2.2 q g
      · exact hA' _ (hf q g)⟩ hL hn hl
  rw [List.map_append, xnum_map hr] at h1
  exact h1
theorem cat_sum8 {ad : Nat → Nat} {r : List Value} (h : r.length ≤ 4) : ((r.map (xv ad)).map fun v => v.category).sum ≤ 8 := by
  have := cat_sum ad r
  omega
def xint : Value → Bool
  | .int _ => true
  | .long _ => true
  | _ => false
theorem xint_map {as : List Value} (h : as.all xint = true) (ad : Nat → Nat) : as.map (xv ad) = as := by
  refine (List.map_congr_left fun v hv => ?_).trans (List.map_id as)
  have := List.all_eq_true.mp h v hv
  cases v <;> first | rfl | cases this
/-- a call of an instance's method: n numbers, the receiver at the place b -/
def O_callV (n b : Nat) (g : σ → τ) (f : σ → τ → σ) (sp : Sp τ) : Op σ := fun K pc L st S => match st.drop n with
  | .ref k :: r => k = b ∧ r.length ≤ 4 ∧ (st.take n).all xint = true ∧ sp (.ref 0 :: (st.take n).reverse) (g S) (fun v P' => K (pc + 3) L (v.toList ++ r) (f S P'))
  | _ => False
def Lens (toW : σ → xW) (toT : τ → xW) (b : Nat) (g : σ → τ) (f : σ → τ → σ) : Prop :=
  ∀ S P', ∃ w1 w2, w1.length = b ∧ toW S = w1 ++ ((toT (g S)).map (xcr (fun i => b + i)) ++ w2) ∧ toW (f S P') = w1 ++ ((toT P').map (xcr (fun i => b + i)) ++ w2)
/-- the receiver's class -/
def rcvOk (toT : τ → xW) (C : String) : Prop := ∀ P : τ, ∃ (ci : Nat) (fs : List Value) (T : u_T) (N : Nat), (toT P)[0]? = some (.inr (.inl (ci, fs))) ∧ classes[ci]? = some (C, T, N)
theorem ok_callV (F : Fx E own cc maxL d) {ix n b : Nat} {y : MethodName} {ycc : ByteArray} {ymL dy : Nat} {yret : Option FieldType} {g : σ → τ} {f : σ → τ → σ} {sp : Sp τ} (hsp : SpOk y ycc ymL yret dy toT sp) (hln : Lens toW toT b g f) (hrc : rcvOk toT y.cls) (hck : cokV own ix y ycc ymL yret n = true) (hdd : dy + 1 ≤ d) (hd : decode cc pc = .ok (.invokevirtual ix, 3)) (hpc : pc + 3 < 100000) : OpOk E toW pc (O_callV n b g f sp) := by
  refine OpOk.mk (by omega) fun {p l e R s m args below meth c Qc Q cs A nL D ad} hE K L st S ho hk H locs hP hap hS hL hn ls hl => ?_
  subst hE
  unfold O_callV at ho
  split at ho
  · rename_i k r hst
    obtain ⟨rfl, hr4, hints, ho⟩ := ho
    obtain ⟨rv, P', hnum, ⟨hlen, hM⟩, hK⟩ := hsp _ _ _ ho
    obtain ⟨w1, w2, hb, hw, hw'⟩ := hln S P'
    have hEm := Emb.block (w2 := w2) hb hlen
    rw [← hw, ← hw'] at hEm
    obtain ⟨h1, h2, h3, h4, h5, h6, h7, h8, h9, h10, h11, h12, h13⟩ := id F
    simp only [cokV, Bool.and_eq_true, decide_eq_true_eq] at hck
    obtain ⟨hws, hd1, hd2, hd3, hd4⟩ := hck
    have hz := fun w (hh : w ∈ _) => wsHas_mem hws hh
    have hlt : n ≤ st.length := by
      rcases Nat.lt_or_ge st.length n with q | q
      · rw [List.drop_eq_nil_of_le (by omega)] at hst; cases hst
      · exact q
    have hsplit : st = st.take n ++ .ref k :: r := by rw [← hst, List.take_append_drop]
    obtain ⟨ci, fs, T, N, hr0, hrc0⟩ := hrc (g S)
    have hrcell := hEm.2.2.2.1 0 _ hr0
    refine x_call (va_runV (y := y) (bytes := ycc) (maxL := ymL) (ret := yret) (n := n) (As := (st.take n).reverse) (rest := r.map (xv ad)) (b := ad k) (C := y.cls) ⟨h1, h2, h3, h5, h6⟩ (hM l D (fun i => ad (k + i)) H.size) (cwV n h6 (ws_GoodIn ?_) rfl rfl rfl ⟨rfl, hd1, hd2, hd3⟩ ⟨?_, ?_⟩) ⟨blind_xPre, ?_, fun U hU hW => ⟨?_, ?_, ?_, ?_, ?_⟩⟩ rfl ?_ (hl.1) ?_ (lv_room (cat_sum8 hr4)) hd ⟨?_, ?_⟩) (fun v st₀ t L1 h0 hf hq => call_after F hEm hnum rfl (hk _ _ _ _ hK) hpc hP hap hS hL hn hl h0 hf hq)
    · intro w hw
      simp only [wsV, List.mem_append, List.mem_cons, List.not_mem_nil, or_false] at hw
      rcases hw with (rfl | rfl | rfl | rfl) | rfl | hw
      · exact hz _ (by simp)
      · exact hz _ (by simp)
      · exact hz _ (by simp)
      · exact hz _ (by simp)
      · exact hz _ (by simp)
      · exact hw
    · show dy + 1 ≤ _; omega
    · show 8 + (ymL + 11) + 36 * dy ≤ _; omega
    · exact va_recv (ci := ci) (q0 := k) h8.1 hP hrc0 (by rw [xw_get, show (toW S)[k]? = _ from hrcell]; rfl)
    · show _ = (List.map _ (Value.ref 0 :: (st.take n).reverse)).toArray
      rw [List.map_cons, xint_map (by rw [List.all_reverse]; exact hints)]
      rfl
    · rw [hU]
    · rw [hU]; exact emb_P hEm hP
    · exact h8.warm hW
    · intro i j hi hj hij
      exact hEm.2.2.1 i j hi hj (hap.1 _ _ (by have := (List.getElem?_eq_some_iff.mp (hEm.2.2.2.1 i _ (List.getElem?_eq_getElem hi))).1; exact this) (by have := (List.getElem?_eq_some_iff.mp (hEm.2.2.2.1 j _ (List.getElem?_eq_getElem hj))).1; exact this) hij)
    · rw [List.length_reverse, List.length_take]; omega
    · show st.map _ = _
      rw [List.reverse_reverse]
      conv => lhs; rw [hsplit]
      rw [List.map_append, xint_map hints]
      rfl
    · omega
    · omega
  · exact ho.elim
/-- a call of a static method of numbers -/
def O_callS (n : Nat) (sp : Sp Unit) : Op σ := fun K pc L st S => n ≤ st.length ∧ (st.drop n).length ≤ 4 ∧ (st.take n).all xint = true ∧ sp (st.take n).reverse () (fun v _ => K (pc + 3) L (v.toList ++ st.drop n) S)
abbrev toU : Unit → xW := fun _ => []
theorem ok_callS (F : Fx E own cc maxL d) {ix n : Nat} {y : MethodName} {ycc : ByteArray} {ymL dy : Nat} {yret : Option FieldType} {sp : Sp Unit} (hsp : SpOk y ycc ymL yret dy toU sp) (hck : cokS own ix y ycc ymL yret n = true) (hyo : y.cls = own) (hdd : dy + 1 ≤ d) (hd : decode cc pc = .ok (.invokestatic ix, 3)) (hpc : pc + 3 < 100000) : OpOk E toW pc (O_callS n sp) := by
  refine OpOk.mk (by omega) fun {p l e R s m args below meth c Qc Q cs A nL D ad} hE K L st S ho hk H locs hP hap hS hL hn ls hl => ?_
  subst hE
  obtain ⟨hlt, hr4, hints, ho⟩ := ho
  obtain ⟨rv, P', hnum, ⟨hlen, hM⟩, hK⟩ := hsp _ _ _ ho
  have hEm : Emb (fun i => i) (toW S) (toW S) (toU ()) (toU P') := Emb.none
  obtain ⟨h1, h2, h3, h4, h5, h6, h7, h8, h9, h10, h11, h12, h13⟩ := id F
  simp only [cokS, Bool.and_eq_true, decide_eq_true_eq] at hck
  obtain ⟨hws, hd1, hd2, hd3, hd4⟩ := hck
  have hz := fun w (hh : w ∈ _) => wsHas_mem hws hh
  refine x_call (va_runS (y := y) (bytes := ycc) (maxL := ymL) (ret := yret) (n := n) (As := (st.take n).reverse) (rest := (st.drop n).map (xv ad)) ⟨h1, h2, h3, h5, h6⟩ (hM l D (fun i => ad i) H.size) (cwS n h6 (ws_GoodIn ?_) rfl rfl rfl ⟨hyo, hd1, hd2, hd3⟩ ⟨?_, ?_⟩) ⟨blind_xPre, fun U hU hW => ⟨?_, ?_, ?_, ?_, ?_⟩⟩ rfl ?_ (hl.1) ?_ (lv_room (cat_sum8 hr4)) hd ⟨?_, ?_⟩) (fun v st₀ t L1 h0 hf hq => call_after F hEm hnum rfl (hk _ _ _ _ hK) hpc hP hap hS hL hn hl h0 hf hq)
  · intro w hw
    simp only [wsS, List.mem_append, List.mem_cons, List.not_mem_nil, or_false] at hw
    rcases hw with (rfl | rfl | rfl) | rfl | hw
    · exact hz _ (by simp)
    · exact hz _ (by simp)
    · rw [← hyo]; exact hz _ (by simp)
    · exact hz _ (by simp)
    · exact hw
  · show dy + 1 ≤ _; omega
  · show 8 + (ymL + 11) + 36 * dy ≤ _; omega
  · show _ = (List.map _ (st.take n).reverse).toArray
    rw [xint_map (by rw [List.all_reverse]; exact hints)]
  · rw [hU]
  · rw [hU]; exact emb_P hEm hP
  · exact h8.warm hW
  · intro i j hi; exact absurd hi (by simp [toU])
  · rw [List.length_reverse, List.length_take]; omega
  · show st.map _ = _
    rw [List.reverse_reverse]
    conv => lhs; rw [← List.take_append_drop n st]
    rw [List.map_append, xint_map hints]
  · omega
  · omega
theorem ok_callSN (F : Fx E own cc maxL d) {ix n : Nat} {host : String} {y : MethodName} {ycc : ByteArray} {ymL dy : Nat} {yret : Option FieldType} {sp : Sp Unit} (hsp : SpOk y ycc ymL yret dy toU sp) (hck : cokN own ix host y ycc ymL yret n = true) (hdd : dy + 1 ≤ d) (hd : decode cc pc = .ok (.invokestatic ix, 3)) (hpc : pc + 3 < 100000) : OpOk E toW pc (O_callS n sp) := by
  refine OpOk.mk (by omega) fun {p l e R s m args below meth c Qc Q cs A nL D ad} hE K L st S ho hk H locs hP hap hS hL hn ls hl => ?_
  subst hE
  obtain ⟨hlt, hr4, hints, ho⟩ := ho
  obtain ⟨rv, P', hnum, ⟨hlen, hM⟩, hK⟩ := hsp _ _ _ ho
  have hEm : Emb (fun i => i) (toW S) (toW S) (toU ()) (toU P') := Emb.none
  obtain ⟨h1, h2, h3, h4, h5, h6, h7, h8, h9, h10, h11, h12, h13⟩ := id F
  simp only [cokN, Bool.and_eq_true, decide_eq_true_eq] at hck
  obtain ⟨hws, hnm, hd1, hd2, hd3, hd4⟩ := hck
  have hz := fun w (hh : w ∈ _) => wsHas_mem hws hh
  refine x_call (va_runSN (y := y) (host := host) (bytes := ycc) (maxL := ymL) (ret := yret) (n := n) (As := (st.take n).reverse) (rest := (st.drop n).map (xv ad)) ⟨h1, h2, h3, h5, h6⟩ (hM l D (fun i => ad i) H.size) ⟨va_cnB n h6 (ws_GoodIn ?_) rfl rfl rfl (h8.2.1 _ hnm) (h6 _ (hz _ (by simp))) ⟨hd1, hd2, hd3⟩ ⟨?_, ?_⟩, h6 _ (hz _ (by simp)), trivial⟩ ⟨blind_xPre, fun U hU hW => ⟨?_, ?_, ?_, ?_, ?_⟩⟩ rfl ?_ (hl.1) ?_ (lv_room (cat_sum8 hr4)) hd ⟨?_, ?_⟩) (fun v st₀ t L1 h0 hf hq => call_after F hEm hnum rfl (hk _ _ _ _ hK) hpc hP hap hS hL hn hl h0 hf hq)
  · intro w hw
    rcases List.mem_cons.mp hw with rfl | hw
    · exact hz _ (by simp)
    · exact hw
  · show dy + 1 ≤ _; omega
  · show 8 + (ymL + 11) + 36 * dy ≤ _; omega
  · show _ = (List.map _ (st.take n).reverse).toArray
    rw [xint_map (by rw [List.all_reverse]; exact hints)]
  · rw [hU]
  · rw [hU]; exact emb_P hEm hP
  · exact h8.warm hW
  · intro i j hi; exact absurd hi (by simp [toU])
  · rw [List.length_reverse, List.length_take]; omega
  · show st.map _ = _
    rw [List.reverse_reverse]
    conv => lhs; rw [← List.take_append_drop n st]
    rw [List.map_append, xint_map hints]
  · omega
  · omega
end CALLS
/-! the walk by a program: from an instruction to the next cuts -/
def lkp {σ : Type} : List (Nat × Op σ) → Nat → Option (Op σ)
  | [], _ => none
  | (k, o) :: t, pc => if k = pc then some o else lkp t pc
theorem lkp_mem {σ : Type} : ∀ {cod : List (Nat × Op σ)} {pc : Nat} {op : Op σ}, lkp cod pc = some op → (pc, op) ∈ cod
  | [], _, _, h => by cases h
  | (k, o) :: t, pc, op, h => by
    unfold lkp at h
    split at h
    · rename_i e; subst e; cases h; exact List.mem_cons_self
    · exact List.mem_cons_of_mem _ (lkp_mem h)
def nx {σ : Type} (cod : List (Nat × Op σ)) (cuts : List Nat) (K : Kt σ) : Nat → Kt σ
  | 0, pc, L, st, S => K pc L st S
  | n + 1, pc, L, st, S => if cuts.elem pc = true then K pc L st S else match lkp cod pc with
    | some op => op (nx cod cuts K n) pc L st S
    | none => K pc L st S
def nx1 {σ : Type} (cod : List (Nat × Op σ)) (cuts : List Nat) (K : Kt σ) (n : Nat) : Kt σ := fun pc L st S => match lkp cod pc with
    | some op => op (nx cod cuts K n) pc L st S
    | none => False
def CodOk {σ : Type} (E : En) (toW : σ → xW) (cod : List (Nat × Op σ)) : Prop := ∀ q ∈ cod, OpOk E toW q.1 q.2
theorem nx_ok {σ : Type} {E : En} {toW : σ → xW} {cod : List (Nat × Op σ)} (hc : CodOk E toW cod) {cuts : List Nat} : ∀ (n pc : Nat) (L : xL) (st : List Value) (S : σ), nx cod cuts (Gd E toW) n pc L st S → Gd E toW pc L st S
  | 0, _, _, _, _, h => h
  | n + 1, pc, L, st, S, h => by
    unfold nx at h
    split at h
    · exact h
    · split at h
      · rename_i op hop
        exact hc _ (lkp_mem hop) _ L st S h (nx_ok hc n)
      · exact h
theorem nx1_ok {σ : Type} {E : En} {toW : σ → xW} {cod : List (Nat × Op σ)} (hc : CodOk E toW cod) (cuts : List Nat) (n : Nat) {pc : Nat} {L : xL} {st : List Value} {S : σ} (h : nx1 cod cuts (Gd E toW) n pc L st S) : Gd E toW pc L st S := by
  unfold nx1 at h
  split at h
  · rename_i op hop
    exact hc _ (lkp_mem hop) _ L st S h (nx_ok hc n)
  · exact h.elim
end
section
/-! ===== the states: one tuple a class ===== -/
abbrev ET : Type := (Nat → Int32) × (Nat → Int32) × (Nat → Int32) × (Nat → Int32) × Int32
def ET.kinds (S : ET) : (Nat → Int32) := S.1
def ET.times (S : ET) : (Nat → Int32) := S.2.1
def ET.pumps (S : ET) : (Nat → Int32) := S.2.2.1
def ET.latest (S : ET) : (Nat → Int32) := S.2.2.2.1
def ET.all (S : ET) : Int32 := S.2.2.2.2
def ET.sKinds (S : ET) (x : (Nat → Int32)) : ET := (x, S.2.1, S.2.2.1, S.2.2.2.1, S.2.2.2.2)
def ET.sTimes (S : ET) (x : (Nat → Int32)) : ET := (S.1, x, S.2.2.1, S.2.2.2.1, S.2.2.2.2)
def ET.sPumps (S : ET) (x : (Nat → Int32)) : ET := (S.1, S.2.1, x, S.2.2.2.1, S.2.2.2.2)
def ET.sLatest (S : ET) (x : (Nat → Int32)) : ET := (S.1, S.2.1, S.2.2.1, x, S.2.2.2.2)
def ET.sAll (S : ET) (x : Int32) : ET := (S.1, S.2.1, S.2.2.1, S.2.2.2.1, x)
set_option maxRecDepth 100000 in
theorem ET_gs : (∀ (S : ET) (x : (Nat → Int32)), (S.sKinds x).kinds = x) ∧
  (∀ (S : ET) (x : (Nat → Int32)), (S.sKinds x).times = S.times) ∧
  (∀ (S : ET) (x : (Nat → Int32)), (S.sKinds x).pumps = S.pumps) ∧
  (∀ (S : ET) (x : (Nat → Int32)), (S.sKinds x).latest = S.latest) ∧
  (∀ (S : ET) (x : (Nat → Int32)), (S.sKinds x).all = S.all) ∧
  (∀ (S : ET) (x y : (Nat → Int32)), (S.sKinds x).sKinds y = S.sKinds y) ∧
  (∀ (S : ET) (x : (Nat → Int32)), (S.sTimes x).kinds = S.kinds) ∧
  (∀ (S : ET) (x : (Nat → Int32)), (S.sTimes x).times = x) ∧
  (∀ (S : ET) (x : (Nat → Int32)), (S.sTimes x).pumps = S.pumps) ∧
  (∀ (S : ET) (x : (Nat → Int32)), (S.sTimes x).latest = S.latest) ∧
  (∀ (S : ET) (x : (Nat → Int32)), (S.sTimes x).all = S.all) ∧
  (∀ (S : ET) (x y : (Nat → Int32)), (S.sTimes x).sTimes y = S.sTimes y) ∧
  (∀ (S : ET) (x : (Nat → Int32)), (S.sPumps x).kinds = S.kinds) ∧
  (∀ (S : ET) (x : (Nat → Int32)), (S.sPumps x).times = S.times) ∧
  (∀ (S : ET) (x : (Nat → Int32)), (S.sPumps x).pumps = x) ∧
  (∀ (S : ET) (x : (Nat → Int32)), (S.sPumps x).latest = S.latest) ∧
  (∀ (S : ET) (x : (Nat → Int32)), (S.sPumps x).all = S.all) ∧
  (∀ (S : ET) (x y : (Nat → Int32)), (S.sPumps x).sPumps y = S.sPumps y) ∧
  (∀ (S : ET) (x : (Nat → Int32)), (S.sLatest x).kinds = S.kinds) ∧
  (∀ (S : ET) (x : (Nat → Int32)), (S.sLatest x).times = S.times) ∧
  (∀ (S : ET) (x : (Nat → Int32)), (S.sLatest x).pumps = S.pumps) ∧
  (∀ (S : ET) (x : (Nat → Int32)), (S.sLatest x).latest = x) ∧
  (∀ (S : ET) (x : (Nat → Int32)), (S.sLatest x).all = S.all) ∧
  (∀ (S : ET) (x y : (Nat → Int32)), (S.sLatest x).sLatest y = S.sLatest y) ∧
  (∀ (S : ET) (x : Int32), (S.sAll x).kinds = S.kinds) ∧
  (∀ (S : ET) (x : Int32), (S.sAll x).times = S.times) ∧
  (∀ (S : ET) (x : Int32), (S.sAll x).pumps = S.pumps) ∧
  (∀ (S : ET) (x : Int32), (S.sAll x).latest = S.latest) ∧
  (∀ (S : ET) (x : Int32), (S.sAll x).all = x) ∧
  (∀ (S : ET) (x y : Int32), (S.sAll x).sAll y = S.sAll y) := by
  repeat' apply And.intro
  all_goals (intros; rfl)
theorem ET.ext' {a b : ET} (h0 : a.kinds = b.kinds) (h1 : a.times = b.times) (h2 : a.pumps = b.pumps) (h3 : a.latest = b.latest) (h4 : a.all = b.all) : a = b := by
  unfold ET.kinds ET.times ET.pumps ET.latest ET.all at *
  exact Prod.ext h0 (Prod.ext h1 (Prod.ext h2 (Prod.ext h3 h4)))
abbrev NT : Type := (Nat → Int32) × Int32 × Int32 × Int32
def NT.noted (S : NT) : (Nat → Int32) := S.1
def NT.size (S : NT) : Int32 := S.2.1
def NT.flow (S : NT) : Int32 := S.2.2.1
def NT.alarms (S : NT) : Int32 := S.2.2.2
def NT.sNoted (S : NT) (x : (Nat → Int32)) : NT := (x, S.2.1, S.2.2.1, S.2.2.2)
def NT.sSize (S : NT) (x : Int32) : NT := (S.1, x, S.2.2.1, S.2.2.2)
def NT.sFlow (S : NT) (x : Int32) : NT := (S.1, S.2.1, x, S.2.2.2)
def NT.sAlarms (S : NT) (x : Int32) : NT := (S.1, S.2.1, S.2.2.1, x)
set_option maxRecDepth 100000 in
theorem NT_gs : (∀ (S : NT) (x : (Nat → Int32)), (S.sNoted x).noted = x) ∧
  (∀ (S : NT) (x : (Nat → Int32)), (S.sNoted x).size = S.size) ∧
  (∀ (S : NT) (x : (Nat → Int32)), (S.sNoted x).flow = S.flow) ∧
  (∀ (S : NT) (x : (Nat → Int32)), (S.sNoted x).alarms = S.alarms) ∧
  (∀ (S : NT) (x y : (Nat → Int32)), (S.sNoted x).sNoted y = S.sNoted y) ∧
  (∀ (S : NT) (x : Int32), (S.sSize x).noted = S.noted) ∧
  (∀ (S : NT) (x : Int32), (S.sSize x).size = x) ∧
  (∀ (S : NT) (x : Int32), (S.sSize x).flow = S.flow) ∧
  (∀ (S : NT) (x : Int32), (S.sSize x).alarms = S.alarms) ∧
  (∀ (S : NT) (x y : Int32), (S.sSize x).sSize y = S.sSize y) ∧
  (∀ (S : NT) (x : Int32), (S.sFlow x).noted = S.noted) ∧
  (∀ (S : NT) (x : Int32), (S.sFlow x).size = S.size) ∧
  (∀ (S : NT) (x : Int32), (S.sFlow x).flow = x) ∧
  (∀ (S : NT) (x : Int32), (S.sFlow x).alarms = S.alarms) ∧
  (∀ (S : NT) (x y : Int32), (S.sFlow x).sFlow y = S.sFlow y) ∧
  (∀ (S : NT) (x : Int32), (S.sAlarms x).noted = S.noted) ∧
  (∀ (S : NT) (x : Int32), (S.sAlarms x).size = S.size) ∧
  (∀ (S : NT) (x : Int32), (S.sAlarms x).flow = S.flow) ∧
  (∀ (S : NT) (x : Int32), (S.sAlarms x).alarms = x) ∧
  (∀ (S : NT) (x y : Int32), (S.sAlarms x).sAlarms y = S.sAlarms y) := by
  repeat' apply And.intro
  all_goals (intros; rfl)
theorem NT.ext' {a b : NT} (h0 : a.noted = b.noted) (h1 : a.size = b.size) (h2 : a.flow = b.flow) (h3 : a.alarms = b.alarms) : a = b := by
  unfold NT.noted NT.size NT.flow NT.alarms at *
  exact Prod.ext h0 (Prod.ext h1 (Prod.ext h2 h3))
abbrev OT : Type := (Nat → Int32) × Int32 × Int32 × Int32 × Int32 × Int32 × Int32
def OT.text (S : OT) : (Nat → Int32) := S.1
def OT.length (S : OT) : Int32 := S.2.1
def OT.place (S : OT) : Int32 := S.2.2.1
def OT.behind (S : OT) : Int32 := S.2.2.2.1
def OT.done (S : OT) : Int32 := S.2.2.2.2.1
def OT.letter (S : OT) : Int32 := S.2.2.2.2.2.1
def OT.number (S : OT) : Int32 := S.2.2.2.2.2.2
def OT.sText (S : OT) (x : (Nat → Int32)) : OT := (x, S.2.1, S.2.2.1, S.2.2.2.1, S.2.2.2.2.1, S.2.2.2.2.2.1, S.2.2.2.2.2.2)
def OT.sLength (S : OT) (x : Int32) : OT := (S.1, x, S.2.2.1, S.2.2.2.1, S.2.2.2.2.1, S.2.2.2.2.2.1, S.2.2.2.2.2.2)
def OT.sPlace (S : OT) (x : Int32) : OT := (S.1, S.2.1, x, S.2.2.2.1, S.2.2.2.2.1, S.2.2.2.2.2.1, S.2.2.2.2.2.2)
def OT.sBehind (S : OT) (x : Int32) : OT := (S.1, S.2.1, S.2.2.1, x, S.2.2.2.2.1, S.2.2.2.2.2.1, S.2.2.2.2.2.2)
def OT.sDone (S : OT) (x : Int32) : OT := (S.1, S.2.1, S.2.2.1, S.2.2.2.1, x, S.2.2.2.2.2.1, S.2.2.2.2.2.2)
def OT.sLetter (S : OT) (x : Int32) : OT := (S.1, S.2.1, S.2.2.1, S.2.2.2.1, S.2.2.2.2.1, x, S.2.2.2.2.2.2)
def OT.sNumber (S : OT) (x : Int32) : OT := (S.1, S.2.1, S.2.2.1, S.2.2.2.1, S.2.2.2.2.1, S.2.2.2.2.2.1, x)
set_option maxRecDepth 100000 in
theorem OT_gs : (∀ (S : OT) (x : (Nat → Int32)), (S.sText x).text = x) ∧
  (∀ (S : OT) (x : (Nat → Int32)), (S.sText x).length = S.length) ∧
  (∀ (S : OT) (x : (Nat → Int32)), (S.sText x).place = S.place) ∧
  (∀ (S : OT) (x : (Nat → Int32)), (S.sText x).behind = S.behind) ∧
  (∀ (S : OT) (x : (Nat → Int32)), (S.sText x).done = S.done) ∧
  (∀ (S : OT) (x : (Nat → Int32)), (S.sText x).letter = S.letter) ∧
  (∀ (S : OT) (x : (Nat → Int32)), (S.sText x).number = S.number) ∧
  (∀ (S : OT) (x y : (Nat → Int32)), (S.sText x).sText y = S.sText y) ∧
  (∀ (S : OT) (x : Int32), (S.sLength x).text = S.text) ∧
  (∀ (S : OT) (x : Int32), (S.sLength x).length = x) ∧
  (∀ (S : OT) (x : Int32), (S.sLength x).place = S.place) ∧
  (∀ (S : OT) (x : Int32), (S.sLength x).behind = S.behind) ∧
  (∀ (S : OT) (x : Int32), (S.sLength x).done = S.done) ∧
  (∀ (S : OT) (x : Int32), (S.sLength x).letter = S.letter) ∧
  (∀ (S : OT) (x : Int32), (S.sLength x).number = S.number) ∧
  (∀ (S : OT) (x y : Int32), (S.sLength x).sLength y = S.sLength y) ∧
  (∀ (S : OT) (x : Int32), (S.sPlace x).text = S.text) ∧
  (∀ (S : OT) (x : Int32), (S.sPlace x).length = S.length) ∧
  (∀ (S : OT) (x : Int32), (S.sPlace x).place = x) ∧
  (∀ (S : OT) (x : Int32), (S.sPlace x).behind = S.behind) ∧
  (∀ (S : OT) (x : Int32), (S.sPlace x).done = S.done) ∧
  (∀ (S : OT) (x : Int32), (S.sPlace x).letter = S.letter) ∧
  (∀ (S : OT) (x : Int32), (S.sPlace x).number = S.number) ∧
  (∀ (S : OT) (x y : Int32), (S.sPlace x).sPlace y = S.sPlace y) ∧
  (∀ (S : OT) (x : Int32), (S.sBehind x).text = S.text) ∧
  (∀ (S : OT) (x : Int32), (S.sBehind x).length = S.length) ∧
  (∀ (S : OT) (x : Int32), (S.sBehind x).place = S.place) ∧
  (∀ (S : OT) (x : Int32), (S.sBehind x).behind = x) ∧
  (∀ (S : OT) (x : Int32), (S.sBehind x).done = S.done) ∧
  (∀ (S : OT) (x : Int32), (S.sBehind x).letter = S.letter) ∧
  (∀ (S : OT) (x : Int32), (S.sBehind x).number = S.number) ∧
  (∀ (S : OT) (x y : Int32), (S.sBehind x).sBehind y = S.sBehind y) ∧
  (∀ (S : OT) (x : Int32), (S.sDone x).text = S.text) ∧
  (∀ (S : OT) (x : Int32), (S.sDone x).length = S.length) ∧
  (∀ (S : OT) (x : Int32), (S.sDone x).place = S.place) ∧
  (∀ (S : OT) (x : Int32), (S.sDone x).behind = S.behind) ∧
  (∀ (S : OT) (x : Int32), (S.sDone x).done = x) ∧
  (∀ (S : OT) (x : Int32), (S.sDone x).letter = S.letter) ∧
  (∀ (S : OT) (x : Int32), (S.sDone x).number = S.number) ∧
  (∀ (S : OT) (x y : Int32), (S.sDone x).sDone y = S.sDone y) ∧
  (∀ (S : OT) (x : Int32), (S.sLetter x).text = S.text) ∧
  (∀ (S : OT) (x : Int32), (S.sLetter x).length = S.length) ∧
  (∀ (S : OT) (x : Int32), (S.sLetter x).place = S.place) ∧
  (∀ (S : OT) (x : Int32), (S.sLetter x).behind = S.behind) ∧
  (∀ (S : OT) (x : Int32), (S.sLetter x).done = S.done) ∧
  (∀ (S : OT) (x : Int32), (S.sLetter x).letter = x) ∧
  (∀ (S : OT) (x : Int32), (S.sLetter x).number = S.number) ∧
  (∀ (S : OT) (x y : Int32), (S.sLetter x).sLetter y = S.sLetter y) ∧
  (∀ (S : OT) (x : Int32), (S.sNumber x).text = S.text) ∧
  (∀ (S : OT) (x : Int32), (S.sNumber x).length = S.length) ∧
  (∀ (S : OT) (x : Int32), (S.sNumber x).place = S.place) ∧
  (∀ (S : OT) (x : Int32), (S.sNumber x).behind = S.behind) ∧
  (∀ (S : OT) (x : Int32), (S.sNumber x).done = S.done) ∧
  (∀ (S : OT) (x : Int32), (S.sNumber x).letter = S.letter) ∧
  (∀ (S : OT) (x : Int32), (S.sNumber x).number = x) ∧
  (∀ (S : OT) (x y : Int32), (S.sNumber x).sNumber y = S.sNumber y) := by
  repeat' apply And.intro
  all_goals (intros; rfl)
theorem OT.ext' {a b : OT} (h0 : a.text = b.text) (h1 : a.length = b.length) (h2 : a.place = b.place) (h3 : a.behind = b.behind) (h4 : a.done = b.done) (h5 : a.letter = b.letter) (h6 : a.number = b.number) : a = b := by
  unfold OT.text OT.length OT.place OT.behind OT.done OT.letter OT.number at *
  exact Prod.ext h0 (Prod.ext h1 (Prod.ext h2 (Prod.ext h3 (Prod.ext h4 (Prod.ext h5 h6)))))
abbrev PT : Type := (Nat → Int32) × (Nat → Int32) × (Nat → Int32) × (Nat → Int32) × (Nat → Int32) × (Nat → Int32) × (Nat → Int32) × (Nat → Int32) × Int32 × Int32
def PT.kinds (S : PT) : (Nat → Int32) := S.1
def PT.shutoffs (S : PT) : (Nat → Int32) := S.2.1
def PT.steeps (S : PT) : (Nat → Int32) := S.2.2.1
def PT.inService (S : PT) : (Nat → Int32) := S.2.2.2.1
def PT.speeds (S : PT) : (Nat → Int32) := S.2.2.2.2.1
def PT.minutes (S : PT) : (Nat → Int32) := S.2.2.2.2.2.1
def PT.since (S : PT) : (Nat → Int32) := S.2.2.2.2.2.2.1
def PT.starts (S : PT) : (Nat → Int32) := S.2.2.2.2.2.2.2.1
def PT.size (S : PT) : Int32 := S.2.2.2.2.2.2.2.2.1
def PT.vrb (S : PT) : Int32 := S.2.2.2.2.2.2.2.2.2
def PT.sKinds (S : PT) (x : (Nat → Int32)) : PT := (x, S.2.1, S.2.2.1, S.2.2.2.1, S.2.2.2.2.1, S.2.2.2.2.2.1, S.2.2.2.2.2.2.1, S.2.2.2.2.2.2.2.1, S.2.2.2.2.2.2.2.2.1, S.2.2.2.2.2.2.2.2.2)
def PT.sShutoffs (S : PT) (x : (Nat → Int32)) : PT := (S.1, x, S.2.2.1, S.2.2.2.1, S.2.2.2.2.1, S.2.2.2.2.2.1, S.2.2.2.2.2.2.1, S.2.2.2.2.2.2.2.1, S.2.2.2.2.2.2.2.2.1, S.2.2.2.2.2.2.2.2.2)
def PT.sSteeps (S : PT) (x : (Nat → Int32)) : PT := (S.1, S.2.1, x, S.2.2.2.1, S.2.2.2.2.1, S.2.2.2.2.2.1, S.2.2.2.2.2.2.1, S.2.2.2.2.2.2.2.1, S.2.2.2.2.2.2.2.2.1, S.2.2.2.2.2.2.2.2.2)
def PT.sInService (S : PT) (x : (Nat → Int32)) : PT := (S.1, S.2.1, S.2.2.1, x, S.2.2.2.2.1, S.2.2.2.2.2.1, S.2.2.2.2.2.2.1, S.2.2.2.2.2.2.2.1, S.2.2.2.2.2.2.2.2.1, S.2.2.2.2.2.2.2.2.2)
def PT.sSpeeds (S : PT) (x : (Nat → Int32)) : PT := (S.1, S.2.1, S.2.2.1, S.2.2.2.1, x, S.2.2.2.2.2.1, S.2.2.2.2.2.2.1, S.2.2.2.2.2.2.2.1, S.2.2.2.2.2.2.2.2.1, S.2.2.2.2.2.2.2.2.2)
def PT.sMinutes (S : PT) (x : (Nat → Int32)) : PT := (S.1, S.2.1, S.2.2.1, S.2.2.2.1, S.2.2.2.2.1, x, S.2.2.2.2.2.2.1, S.2.2.2.2.2.2.2.1, S.2.2.2.2.2.2.2.2.1, S.2.2.2.2.2.2.2.2.2)
def PT.sSince (S : PT) (x : (Nat → Int32)) : PT := (S.1, S.2.1, S.2.2.1, S.2.2.2.1, S.2.2.2.2.1, S.2.2.2.2.2.1, x, S.2.2.2.2.2.2.2.1, S.2.2.2.2.2.2.2.2.1, S.2.2.2.2.2.2.2.2.2)
def PT.sStarts (S : PT) (x : (Nat → Int32)) : PT := (S.1, S.2.1, S.2.2.1, S.2.2.2.1, S.2.2.2.2.1, S.2.2.2.2.2.1, S.2.2.2.2.2.2.1, x, S.2.2.2.2.2.2.2.2.1, S.2.2.2.2.2.2.2.2.2)
def PT.sSize (S : PT) (x : Int32) : PT := (S.1, S.2.1, S.2.2.1, S.2.2.2.1, S.2.2.2.2.1, S.2.2.2.2.2.1, S.2.2.2.2.2.2.1, S.2.2.2.2.2.2.2.1, x, S.2.2.2.2.2.2.2.2.2)
def PT.sVrb (S : PT) (x : Int32) : PT := (S.1, S.2.1, S.2.2.1, S.2.2.2.1, S.2.2.2.2.1, S.2.2.2.2.2.1, S.2.2.2.2.2.2.1, S.2.2.2.2.2.2.2.1, S.2.2.2.2.2.2.2.2.1, x)
set_option maxRecDepth 100000 in
theorem PT_gs : (∀ (S : PT) (x : (Nat → Int32)), (S.sKinds x).kinds = x) ∧
  (∀ (S : PT) (x : (Nat → Int32)), (S.sKinds x).shutoffs = S.shutoffs) ∧
  (∀ (S : PT) (x : (Nat → Int32)), (S.sKinds x).steeps = S.steeps) ∧
  (∀ (S : PT) (x : (Nat → Int32)), (S.sKinds x).inService = S.inService) ∧
  (∀ (S : PT) (x : (Nat → Int32)), (S.sKinds x).speeds = S.speeds) ∧
  (∀ (S : PT) (x : (Nat → Int32)), (S.sKinds x).minutes = S.minutes) ∧
  (∀ (S : PT) (x : (Nat → Int32)), (S.sKinds x).since = S.since) ∧
  (∀ (S : PT) (x : (Nat → Int32)), (S.sKinds x).starts = S.starts) ∧
  (∀ (S : PT) (x : (Nat → Int32)), (S.sKinds x).size = S.size) ∧
  (∀ (S : PT) (x : (Nat → Int32)), (S.sKinds x).vrb = S.vrb) ∧
  (∀ (S : PT) (x y : (Nat → Int32)), (S.sKinds x).sKinds y = S.sKinds y) ∧
  (∀ (S : PT) (x : (Nat → Int32)), (S.sShutoffs x).kinds = S.kinds) ∧
  (∀ (S : PT) (x : (Nat → Int32)), (S.sShutoffs x).shutoffs = x) ∧
  (∀ (S : PT) (x : (Nat → Int32)), (S.sShutoffs x).steeps = S.steeps) ∧
  (∀ (S : PT) (x : (Nat → Int32)), (S.sShutoffs x).inService = S.inService) ∧
  (∀ (S : PT) (x : (Nat → Int32)), (S.sShutoffs x).speeds = S.speeds) ∧
  (∀ (S : PT) (x : (Nat → Int32)), (S.sShutoffs x).minutes = S.minutes) ∧
  (∀ (S : PT) (x : (Nat → Int32)), (S.sShutoffs x).since = S.since) ∧
  (∀ (S : PT) (x : (Nat → Int32)), (S.sShutoffs x).starts = S.starts) ∧
  (∀ (S : PT) (x : (Nat → Int32)), (S.sShutoffs x).size = S.size) ∧
  (∀ (S : PT) (x : (Nat → Int32)), (S.sShutoffs x).vrb = S.vrb) ∧
  (∀ (S : PT) (x y : (Nat → Int32)), (S.sShutoffs x).sShutoffs y = S.sShutoffs y) ∧
  (∀ (S : PT) (x : (Nat → Int32)), (S.sSteeps x).kinds = S.kinds) ∧
  (∀ (S : PT) (x : (Nat → Int32)), (S.sSteeps x).shutoffs = S.shutoffs) ∧
  (∀ (S : PT) (x : (Nat → Int32)), (S.sSteeps x).steeps = x) ∧
  (∀ (S : PT) (x : (Nat → Int32)), (S.sSteeps x).inService = S.inService) ∧
  (∀ (S : PT) (x : (Nat → Int32)), (S.sSteeps x).speeds = S.speeds) ∧
  (∀ (S : PT) (x : (Nat → Int32)), (S.sSteeps x).minutes = S.minutes) ∧
  (∀ (S : PT) (x : (Nat → Int32)), (S.sSteeps x).since = S.since) ∧
  (∀ (S : PT) (x : (Nat → Int32)), (S.sSteeps x).starts = S.starts) ∧
  (∀ (S : PT) (x : (Nat → Int32)), (S.sSteeps x).size = S.size) ∧
  (∀ (S : PT) (x : (Nat → Int32)), (S.sSteeps x).vrb = S.vrb) ∧
  (∀ (S : PT) (x y : (Nat → Int32)), (S.sSteeps x).sSteeps y = S.sSteeps y) ∧
  (∀ (S : PT) (x : (Nat → Int32)), (S.sInService x).kinds = S.kinds) ∧
  (∀ (S : PT) (x : (Nat → Int32)), (S.sInService x).shutoffs = S.shutoffs) ∧
  (∀ (S : PT) (x : (Nat → Int32)), (S.sInService x).steeps = S.steeps) ∧
  (∀ (S : PT) (x : (Nat → Int32)), (S.sInService x).inService = x) ∧
  (∀ (S : PT) (x : (Nat → Int32)), (S.sInService x).speeds = S.speeds) ∧
  (∀ (S : PT) (x : (Nat → Int32)), (S.sInService x).minutes = S.minutes) ∧
  (∀ (S : PT) (x : (Nat → Int32)), (S.sInService x).since = S.since) ∧
  (∀ (S : PT) (x : (Nat → Int32)), (S.sInService x).starts = S.starts) ∧
  (∀ (S : PT) (x : (Nat → Int32)), (S.sInService x).size = S.size) ∧
  (∀ (S : PT) (x : (Nat → Int32)), (S.sInService x).vrb = S.vrb) ∧
  (∀ (S : PT) (x y : (Nat → Int32)), (S.sInService x).sInService y = S.sInService y) ∧
  (∀ (S : PT) (x : (Nat → Int32)), (S.sSpeeds x).kinds = S.kinds) ∧
  (∀ (S : PT) (x : (Nat → Int32)), (S.sSpeeds x).shutoffs = S.shutoffs) ∧
  (∀ (S : PT) (x : (Nat → Int32)), (S.sSpeeds x).steeps = S.steeps) ∧
  (∀ (S : PT) (x : (Nat → Int32)), (S.sSpeeds x).inService = S.inService) ∧
  (∀ (S : PT) (x : (Nat → Int32)), (S.sSpeeds x).speeds = x) ∧
  (∀ (S : PT) (x : (Nat → Int32)), (S.sSpeeds x).minutes = S.minutes) ∧
  (∀ (S : PT) (x : (Nat → Int32)), (S.sSpeeds x).since = S.since) ∧
  (∀ (S : PT) (x : (Nat → Int32)), (S.sSpeeds x).starts = S.starts) ∧
  (∀ (S : PT) (x : (Nat → Int32)), (S.sSpeeds x).size = S.size) ∧
  (∀ (S : PT) (x : (Nat → Int32)), (S.sSpeeds x).vrb = S.vrb) ∧
  (∀ (S : PT) (x y : (Nat → Int32)), (S.sSpeeds x).sSpeeds y = S.sSpeeds y) ∧
  (∀ (S : PT) (x : (Nat → Int32)), (S.sMinutes x).kinds = S.kinds) ∧
  (∀ (S : PT) (x : (Nat → Int32)), (S.sMinutes x).shutoffs = S.shutoffs) ∧
  (∀ (S : PT) (x : (Nat → Int32)), (S.sMinutes x).steeps = S.steeps) ∧
  (∀ (S : PT) (x : (Nat → Int32)), (S.sMinutes x).inService = S.inService) ∧
  (∀ (S : PT) (x : (Nat → Int32)), (S.sMinutes x).speeds = S.speeds) ∧
  (∀ (S : PT) (x : (Nat → Int32)), (S.sMinutes x).minutes = x) ∧
  (∀ (S : PT) (x : (Nat → Int32)), (S.sMinutes x).since = S.since) ∧
  (∀ (S : PT) (x : (Nat → Int32)), (S.sMinutes x).starts = S.starts) ∧
  (∀ (S : PT) (x : (Nat → Int32)), (S.sMinutes x).size = S.size) ∧
  (∀ (S : PT) (x : (Nat → Int32)), (S.sMinutes x).vrb = S.vrb) ∧
  (∀ (S : PT) (x y : (Nat → Int32)), (S.sMinutes x).sMinutes y = S.sMinutes y) ∧
  (∀ (S : PT) (x : (Nat → Int32)), (S.sSince x).kinds = S.kinds) ∧
  (∀ (S : PT) (x : (Nat → Int32)), (S.sSince x).shutoffs = S.shutoffs) ∧
  (∀ (S : PT) (x : (Nat → Int32)), (S.sSince x).steeps = S.steeps) ∧
  (∀ (S : PT) (x : (Nat → Int32)), (S.sSince x).inService = S.inService) ∧
  (∀ (S : PT) (x : (Nat → Int32)), (S.sSince x).speeds = S.speeds) ∧
  (∀ (S : PT) (x : (Nat → Int32)), (S.sSince x).minutes = S.minutes) ∧
  (∀ (S : PT) (x : (Nat → Int32)), (S.sSince x).since = x) ∧
  (∀ (S : PT) (x : (Nat → Int32)), (S.sSince x).starts = S.starts) ∧
  (∀ (S : PT) (x : (Nat → Int32)), (S.sSince x).size = S.size) ∧
  (∀ (S : PT) (x : (Nat → Int32)), (S.sSince x).vrb = S.vrb) ∧
  (∀ (S : PT) (x y : (Nat → Int32)), (S.sSince x).sSince y = S.sSince y) ∧
  (∀ (S : PT) (x : (Nat → Int32)), (S.sStarts x).kinds = S.kinds) ∧
  (∀ (S : PT) (x : (Nat → Int32)), (S.sStarts x).shutoffs = S.shutoffs) ∧
  (∀ (S : PT) (x : (Nat → Int32)), (S.sStarts x).steeps = S.steeps) ∧
  (∀ (S : PT) (x : (Nat → Int32)), (S.sStarts x).inService = S.inService) ∧
  (∀ (S : PT) (x : (Nat → Int32)), (S.sStarts x).speeds = S.speeds) ∧
  (∀ (S : PT) (x : (Nat → Int32)), (S.sStarts x).minutes = S.minutes) ∧
  (∀ (S : PT) (x : (Nat → Int32)), (S.sStarts x).since = S.since) ∧
  (∀ (S : PT) (x : (Nat → Int32)), (S.sStarts x).starts = x) ∧
  (∀ (S : PT) (x : (Nat → Int32)), (S.sStarts x).size = S.size) ∧
  (∀ (S : PT) (x : (Nat → Int32)), (S.sStarts x).vrb = S.vrb) ∧
  (∀ (S : PT) (x y : (Nat → Int32)), (S.sStarts x).sStarts y = S.sStarts y) ∧
  (∀ (S : PT) (x : Int32), (S.sSize x).kinds = S.kinds) ∧
  (∀ (S : PT) (x : Int32), (S.sSize x).shutoffs = S.shutoffs) ∧
  (∀ (S : PT) (x : Int32), (S.sSize x).steeps = S.steeps) ∧
  (∀ (S : PT) (x : Int32), (S.sSize x).inService = S.inService) ∧
  (∀ (S : PT) (x : Int32), (S.sSize x).speeds = S.speeds) ∧
  (∀ (S : PT) (x : Int32), (S.sSize x).minutes = S.minutes) ∧
  (∀ (S : PT) (x : Int32), (S.sSize x).since = S.since) ∧
  (∀ (S : PT) (x : Int32), (S.sSize x).starts = S.starts) ∧
  (∀ (S : PT) (x : Int32), (S.sSize x).size = x) ∧
  (∀ (S : PT) (x : Int32), (S.sSize x).vrb = S.vrb) ∧
  (∀ (S : PT) (x y : Int32), (S.sSize x).sSize y = S.sSize y) ∧
  (∀ (S : PT) (x : Int32), (S.sVrb x).kinds = S.kinds) ∧
  (∀ (S : PT) (x : Int32), (S.sVrb x).shutoffs = S.shutoffs) ∧
  (∀ (S : PT) (x : Int32), (S.sVrb x).steeps = S.steeps) ∧
  (∀ (S : PT) (x : Int32), (S.sVrb x).inService = S.inService) ∧
  (∀ (S : PT) (x : Int32), (S.sVrb x).speeds = S.speeds) ∧
  (∀ (S : PT) (x : Int32), (S.sVrb x).minutes = S.minutes) ∧
  (∀ (S : PT) (x : Int32), (S.sVrb x).since = S.since) ∧
  (∀ (S : PT) (x : Int32), (S.sVrb x).starts = S.starts) ∧
  (∀ (S : PT) (x : Int32), (S.sVrb x).size = S.size) ∧
  (∀ (S : PT) (x : Int32), (S.sVrb x).vrb = x) ∧
  (∀ (S : PT) (x y : Int32), (S.sVrb x).sVrb y = S.sVrb y) := by
  repeat' apply And.intro
  all_goals (intros; rfl)
theorem PT.ext' {a b : PT} (h0 : a.kinds = b.kinds) (h1 : a.shutoffs = b.shutoffs) (h2 : a.steeps = b.steeps) (h3 : a.inService = b.inService) (h4 : a.speeds = b.speeds) (h5 : a.minutes = b.minutes) (h6 : a.since = b.since) (h7 : a.starts = b.starts) (h8 : a.size = b.size) (h9 : a.vrb = b.vrb) : a = b := by
  unfold PT.kinds PT.shutoffs PT.steeps PT.inService PT.speeds PT.minutes PT.since PT.starts PT.size PT.vrb at *
  exact Prod.ext h0 (Prod.ext h1 (Prod.ext h2 (Prod.ext h3 (Prod.ext h4 (Prod.ext h5 (Prod.ext h6 (Prod.ext h7 (Prod.ext h8 h9))))))))
abbrev ZT : Type := (Nat → Int32) × (Nat → Int32) × Int32 × (Nat → Int32) × (Nat → Int32) × (Nat → Int32) × Int32
def ZT.demands (S : ZT) : (Nat → Int32) := S.1
def ZT.isOpen (S : ZT) : (Nat → Int32) := S.2.1
def ZT.size (S : ZT) : Int32 := S.2.2.1
def ZT.pzones (S : ZT) : (Nat → Int32) := S.2.2.2.1
def ZT.opening (S : ZT) : (Nat → Int32) := S.2.2.2.2.1
def ZT.closing (S : ZT) : (Nat → Int32) := S.2.2.2.2.2.1
def ZT.programmes (S : ZT) : Int32 := S.2.2.2.2.2.2
def ZT.sDemands (S : ZT) (x : (Nat → Int32)) : ZT := (x, S.2.1, S.2.2.1, S.2.2.2.1, S.2.2.2.2.1, S.2.2.2.2.2.1, S.2.2.2.2.2.2)
def ZT.sIsOpen (S : ZT) (x : (Nat → Int32)) : ZT := (S.1, x, S.2.2.1, S.2.2.2.1, S.2.2.2.2.1, S.2.2.2.2.2.1, S.2.2.2.2.2.2)
def ZT.sSize (S : ZT) (x : Int32) : ZT := (S.1, S.2.1, x, S.2.2.2.1, S.2.2.2.2.1, S.2.2.2.2.2.1, S.2.2.2.2.2.2)
def ZT.sPzones (S : ZT) (x : (Nat → Int32)) : ZT := (S.1, S.2.1, S.2.2.1, x, S.2.2.2.2.1, S.2.2.2.2.2.1, S.2.2.2.2.2.2)
def ZT.sOpening (S : ZT) (x : (Nat → Int32)) : ZT := (S.1, S.2.1, S.2.2.1, S.2.2.2.1, x, S.2.2.2.2.2.1, S.2.2.2.2.2.2)
def ZT.sClosing (S : ZT) (x : (Nat → Int32)) : ZT := (S.1, S.2.1, S.2.2.1, S.2.2.2.1, S.2.2.2.2.1, x, S.2.2.2.2.2.2)
def ZT.sProgrammes (S : ZT) (x : Int32) : ZT := (S.1, S.2.1, S.2.2.1, S.2.2.2.1, S.2.2.2.2.1, S.2.2.2.2.2.1, x)
set_option maxRecDepth 100000 in
theorem ZT_gs : (∀ (S : ZT) (x : (Nat → Int32)), (S.sDemands x).demands = x) ∧
  (∀ (S : ZT) (x : (Nat → Int32)), (S.sDemands x).isOpen = S.isOpen) ∧
  (∀ (S : ZT) (x : (Nat → Int32)), (S.sDemands x).size = S.size) ∧
  (∀ (S : ZT) (x : (Nat → Int32)), (S.sDemands x).pzones = S.pzones) ∧
  (∀ (S : ZT) (x : (Nat → Int32)), (S.sDemands x).opening = S.opening) ∧
  (∀ (S : ZT) (x : (Nat → Int32)), (S.sDemands x).closing = S.closing) ∧
  (∀ (S : ZT) (x : (Nat → Int32)), (S.sDemands x).programmes = S.programmes) ∧
  (∀ (S : ZT) (x y : (Nat → Int32)), (S.sDemands x).sDemands y = S.sDemands y) ∧
  (∀ (S : ZT) (x : (Nat → Int32)), (S.sIsOpen x).demands = S.demands) ∧
  (∀ (S : ZT) (x : (Nat → Int32)), (S.sIsOpen x).isOpen = x) ∧
  (∀ (S : ZT) (x : (Nat → Int32)), (S.sIsOpen x).size = S.size) ∧
  (∀ (S : ZT) (x : (Nat → Int32)), (S.sIsOpen x).pzones = S.pzones) ∧
  (∀ (S : ZT) (x : (Nat → Int32)), (S.sIsOpen x).opening = S.opening) ∧
  (∀ (S : ZT) (x : (Nat → Int32)), (S.sIsOpen x).closing = S.closing) ∧
  (∀ (S : ZT) (x : (Nat → Int32)), (S.sIsOpen x).programmes = S.programmes) ∧
  (∀ (S : ZT) (x y : (Nat → Int32)), (S.sIsOpen x).sIsOpen y = S.sIsOpen y) ∧
  (∀ (S : ZT) (x : Int32), (S.sSize x).demands = S.demands) ∧
  (∀ (S : ZT) (x : Int32), (S.sSize x).isOpen = S.isOpen) ∧
  (∀ (S : ZT) (x : Int32), (S.sSize x).size = x) ∧
  (∀ (S : ZT) (x : Int32), (S.sSize x).pzones = S.pzones) ∧
  (∀ (S : ZT) (x : Int32), (S.sSize x).opening = S.opening) ∧
  (∀ (S : ZT) (x : Int32), (S.sSize x).closing = S.closing) ∧
  (∀ (S : ZT) (x : Int32), (S.sSize x).programmes = S.programmes) ∧
  (∀ (S : ZT) (x y : Int32), (S.sSize x).sSize y = S.sSize y) ∧
  (∀ (S : ZT) (x : (Nat → Int32)), (S.sPzones x).demands = S.demands) ∧
  (∀ (S : ZT) (x : (Nat → Int32)), (S.sPzones x).isOpen = S.isOpen) ∧
  (∀ (S : ZT) (x : (Nat → Int32)), (S.sPzones x).size = S.size) ∧
  (∀ (S : ZT) (x : (Nat → Int32)), (S.sPzones x).pzones = x) ∧
  (∀ (S : ZT) (x : (Nat → Int32)), (S.sPzones x).opening = S.opening) ∧
  (∀ (S : ZT) (x : (Nat → Int32)), (S.sPzones x).closing = S.closing) ∧
  (∀ (S : ZT) (x : (Nat → Int32)), (S.sPzones x).programmes = S.programmes) ∧
  (∀ (S : ZT) (x y : (Nat → Int32)), (S.sPzones x).sPzones y = S.sPzones y) ∧
  (∀ (S : ZT) (x : (Nat → Int32)), (S.sOpening x).demands = S.demands) ∧
  (∀ (S : ZT) (x : (Nat → Int32)), (S.sOpening x).isOpen = S.isOpen) ∧
  (∀ (S : ZT) (x : (Nat → Int32)), (S.sOpening x).size = S.size) ∧
  (∀ (S : ZT) (x : (Nat → Int32)), (S.sOpening x).pzones = S.pzones) ∧
  (∀ (S : ZT) (x : (Nat → Int32)), (S.sOpening x).opening = x) ∧
  (∀ (S : ZT) (x : (Nat → Int32)), (S.sOpening x).closing = S.closing) ∧
  (∀ (S : ZT) (x : (Nat → Int32)), (S.sOpening x).programmes = S.programmes) ∧
  (∀ (S : ZT) (x y : (Nat → Int32)), (S.sOpening x).sOpening y = S.sOpening y) ∧
  (∀ (S : ZT) (x : (Nat → Int32)), (S.sClosing x).demands = S.demands) ∧
  (∀ (S : ZT) (x : (Nat → Int32)), (S.sClosing x).isOpen = S.isOpen) ∧
  (∀ (S : ZT) (x : (Nat → Int32)), (S.sClosing x).size = S.size) ∧
  (∀ (S : ZT) (x : (Nat → Int32)), (S.sClosing x).pzones = S.pzones) ∧
  (∀ (S : ZT) (x : (Nat → Int32)), (S.sClosing x).opening = S.opening) ∧
  (∀ (S : ZT) (x : (Nat → Int32)), (S.sClosing x).closing = x) ∧
  (∀ (S : ZT) (x : (Nat → Int32)), (S.sClosing x).programmes = S.programmes) ∧
  (∀ (S : ZT) (x y : (Nat → Int32)), (S.sClosing x).sClosing y = S.sClosing y) ∧
  (∀ (S : ZT) (x : Int32), (S.sProgrammes x).demands = S.demands) ∧
  (∀ (S : ZT) (x : Int32), (S.sProgrammes x).isOpen = S.isOpen) ∧
  (∀ (S : ZT) (x : Int32), (S.sProgrammes x).size = S.size) ∧
  (∀ (S : ZT) (x : Int32), (S.sProgrammes x).pzones = S.pzones) ∧
  (∀ (S : ZT) (x : Int32), (S.sProgrammes x).opening = S.opening) ∧
  (∀ (S : ZT) (x : Int32), (S.sProgrammes x).closing = S.closing) ∧
  (∀ (S : ZT) (x : Int32), (S.sProgrammes x).programmes = x) ∧
  (∀ (S : ZT) (x y : Int32), (S.sProgrammes x).sProgrammes y = S.sProgrammes y) := by
  repeat' apply And.intro
  all_goals (intros; rfl)
theorem ZT.ext' {a b : ZT} (h0 : a.demands = b.demands) (h1 : a.isOpen = b.isOpen) (h2 : a.size = b.size) (h3 : a.pzones = b.pzones) (h4 : a.opening = b.opening) (h5 : a.closing = b.closing) (h6 : a.programmes = b.programmes) : a = b := by
  unfold ZT.demands ZT.isOpen ZT.size ZT.pzones ZT.opening ZT.closing ZT.programmes at *
  exact Prod.ext h0 (Prod.ext h1 (Prod.ext h2 (Prod.ext h3 (Prod.ext h4 (Prod.ext h5 h6)))))
abbrev ST : Type := (Nat → Int32) × PT × ZT × NT × ET × Int32 × Int32 × Int32 × Int32 × Int32 × Int32 × Int32 × Int32 × Int32 × Int32 × Int32 × Int32
def ST.settings (S : ST) : (Nat → Int32) := S.1
def ST.P (S : ST) : PT := S.2.1
def ST.Z (S : ST) : ZT := S.2.2.1
def ST.N (S : ST) : NT := S.2.2.2.1
def ST.E (S : ST) : ET := S.2.2.2.2.1
def ST.time (S : ST) : Int32 := S.2.2.2.2.2.1
def ST.pressure (S : ST) : Int32 := S.2.2.2.2.2.2.1
def ST.level (S : ST) : Int32 := S.2.2.2.2.2.2.2.1
def ST.leak (S : ST) : Int32 := S.2.2.2.2.2.2.2.2.1
def ST.supply (S : ST) : Int32 := S.2.2.2.2.2.2.2.2.2.1
def ST.allSupplied (S : ST) : Int32 := S.2.2.2.2.2.2.2.2.2.2.1
def ST.dry (S : ST) : Int32 := S.2.2.2.2.2.2.2.2.2.2.2.1
def ST.dryMinutes (S : ST) : Int32 := S.2.2.2.2.2.2.2.2.2.2.2.2.1
def ST.trips (S : ST) : Int32 := S.2.2.2.2.2.2.2.2.2.2.2.2.2.1
def ST.toStart (S : ST) : Int32 := S.2.2.2.2.2.2.2.2.2.2.2.2.2.2.1
def ST.toStop (S : ST) : Int32 := S.2.2.2.2.2.2.2.2.2.2.2.2.2.2.2.1
def ST.toSleep (S : ST) : Int32 := S.2.2.2.2.2.2.2.2.2.2.2.2.2.2.2.2
def ST.sSettings (S : ST) (x : (Nat → Int32)) : ST := (x, S.2.1, S.2.2.1, S.2.2.2.1, S.2.2.2.2.1, S.2.2.2.2.2.1, S.2.2.2.2.2.2.1, S.2.2.2.2.2.2.2.1, S.2.2.2.2.2.2.2.2.1, S.2.2.2.2.2.2.2.2.2.1, S.2.2.2.2.2.2.2.2.2.2.1, S.2.2.2.2.2.2.2.2.2.2.2.1, S.2.2.2.2.2.2.2.2.2.2.2.2.1, S.2.2.2.2.2.2.2.2.2.2.2.2.2.1, S.2.2.2.2.2.2.2.2.2.2.2.2.2.2.1, S.2.2.2.2.2.2.2.2.2.2.2.2.2.2.2.1, S.2.2.2.2.2.2.2.2.2.2.2.2.2.2.2.2)
def ST.sP (S : ST) (x : PT) : ST := (S.1, x, S.2.2.1, S.2.2.2.1, S.2.2.2.2.1, S.2.2.2.2.2.1, S.2.2.2.2.2.2.1, S.2.2.2.2.2.2.2.1, S.2.2.2.2.2.2.2.2.1, S.2.2.2.2.2.2.2.2.2.1, S.2.2.2.2.2.2.2.2.2.2.1, S.2.2.2.2.2.2.2.2.2.2.2.1, S.2.2.2.2.2.2.2.2.2.2.2.2.1, S.2.2.2.2.2.2.2.2.2.2.2.2.2.1, S.2.2.2.2.2.2.2.2.2.2.2.2.2.2.1, S.2.2.2.2.2.2.2.2.2.2.2.2.2.2.2.1, S.2.2.2.2.2.2.2.2.2.2.2.2.2.2.2.2)
def ST.sZ (S : ST) (x : ZT) : ST := (S.1, S.2.1, x, S.2.2.2.1, S.2.2.2.2.1, S.2.2.2.2.2.1, S.2.2.2.2.2.2.1, S.2.2.2.2.2.2.2.1, S.2.2.2.2.2.2.2.2.1, S.2.2.2.2.2.2.2.2.2.1, S.2.2.2.2.2.2.2.2.2.2.1, S.2.2.2.2.2.2.2.2.2.2.2.1, S.2.2.2.2.2.2.2.2.2.2.2.2.1, S.2.2.2.2.2.2.2.2.2.2.2.2.2.1, S.2.2.2.2.2.2.2.2.2.2.2.2.2.2.1, S.2.2.2.2.2.2.2.2.2.2.2.2.2.2.2.1, S.2.2.2.2.2.2.2.2.2.2.2.2.2.2.2.2)
def ST.sN (S : ST) (x : NT) : ST := (S.1, S.2.1, S.2.2.1, x, S.2.2.2.2.1, S.2.2.2.2.2.1, S.2.2.2.2.2.2.1, S.2.2.2.2.2.2.2.1, S.2.2.2.2.2.2.2.2.1, S.2.2.2.2.2.2.2.2.2.1, S.2.2.2.2.2.2.2.2.2.2.1, S.2.2.2.2.2.2.2.2.2.2.2.1, S.2.2.2.2.2.2.2.2.2.2.2.2.1, S.2.2.2.2.2.2.2.2.2.2.2.2.2.1, S.2.2.2.2.2.2.2.2.2.2.2.2.2.2.1, S.2.2.2.2.2.2.2.2.2.2.2.2.2.2.2.1, S.2.2.2.2.2.2.2.2.2.2.2.2.2.2.2.2)
def ST.sE (S : ST) (x : ET) : ST := (S.1, S.2.1, S.2.2.1, S.2.2.2.1, x, S.2.2.2.2.2.1, S.2.2.2.2.2.2.1, S.2.2.2.2.2.2.2.1, S.2.2.2.2.2.2.2.2.1, S.2.2.2.2.2.2.2.2.2.1, S.2.2.2.2.2.2.2.2.2.2.1, S.2.2.2.2.2.2.2.2.2.2.2.1, S.2.2.2.2.2.2.2.2.2.2.2.2.1, S.2.2.2.2.2.2.2.2.2.2.2.2.2.1, S.2.2.2.2.2.2.2.2.2.2.2.2.2.2.1, S.2.2.2.2.2.2.2.2.2.2.2.2.2.2.2.1, S.2.2.2.2.2.2.2.2.2.2.2.2.2.2.2.2)
def ST.sTime (S : ST) (x : Int32) : ST := (S.1, S.2.1, S.2.2.1, S.2.2.2.1, S.2.2.2.2.1, x, S.2.2.2.2.2.2.1, S.2.2.2.2.2.2.2.1, S.2.2.2.2.2.2.2.2.1, S.2.2.2.2.2.2.2.2.2.1, S.2.2.2.2.2.2.2.2.2.2.1, S.2.2.2.2.2.2.2.2.2.2.2.1, S.2.2.2.2.2.2.2.2.2.2.2.2.1, S.2.2.2.2.2.2.2.2.2.2.2.2.2.1, S.2.2.2.2.2.2.2.2.2.2.2.2.2.2.1, S.2.2.2.2.2.2.2.2.2.2.2.2.2.2.2.1, S.2.2.2.2.2.2.2.2.2.2.2.2.2.2.2.2)
def ST.sPressure (S : ST) (x : Int32) : ST := (S.1, S.2.1, S.2.2.1, S.2.2.2.1, S.2.2.2.2.1, S.2.2.2.2.2.1, x, S.2.2.2.2.2.2.2.1, S.2.2.2.2.2.2.2.2.1, S.2.2.2.2.2.2.2.2.2.1, S.2.2.2.2.2.2.2.2.2.2.1, S.2.2.2.2.2.2.2.2.2.2.2.1, S.2.2.2.2.2.2.2.2.2.2.2.2.1, S.2.2.2.2.2.2.2.2.2.2.2.2.2.1, S.2.2.2.2.2.2.2.2.2.2.2.2.2.2.1, S.2.2.2.2.2.2.2.2.2.2.2.2.2.2.2.1, S.2.2.2.2.2.2.2.2.2.2.2.2.2.2.2.2)
def ST.sLevel (S : ST) (x : Int32) : ST := (S.1, S.2.1, S.2.2.1, S.2.2.2.1, S.2.2.2.2.1, S.2.2.2.2.2.1, S.2.2.2.2.2.2.1, x, S.2.2.2.2.2.2.2.2.1, S.2.2.2.2.2.2.2.2.2.1, S.2.2.2.2.2.2.2.2.2.2.1, S.2.2.2.2.2.2.2.2.2.2.2.1, S.2.2.2.2.2.2.2.2.2.2.2.2.1, S.2.2.2.2.2.2.2.2.2.2.2.2.2.1, S.2.2.2.2.2.2.2.2.2.2.2.2.2.2.1, S.2.2.2.2.2.2.2.2.2.2.2.2.2.2.2.1, S.2.2.2.2.2.2.2.2.2.2.2.2.2.2.2.2)
def ST.sLeak (S : ST) (x : Int32) : ST := (S.1, S.2.1, S.2.2.1, S.2.2.2.1, S.2.2.2.2.1, S.2.2.2.2.2.1, S.2.2.2.2.2.2.1, S.2.2.2.2.2.2.2.1, x, S.2.2.2.2.2.2.2.2.2.1, S.2.2.2.2.2.2.2.2.2.2.1, S.2.2.2.2.2.2.2.2.2.2.2.1, S.2.2.2.2.2.2.2.2.2.2.2.2.1, S.2.2.2.2.2.2.2.2.2.2.2.2.2.1, S.2.2.2.2.2.2.2.2.2.2.2.2.2.2.1, S.2.2.2.2.2.2.2.2.2.2.2.2.2.2.2.1, S.2.2.2.2.2.2.2.2.2.2.2.2.2.2.2.2)
def ST.sSupply (S : ST) (x : Int32) : ST := (S.1, S.2.1, S.2.2.1, S.2.2.2.1, S.2.2.2.2.1, S.2.2.2.2.2.1, S.2.2.2.2.2.2.1, S.2.2.2.2.2.2.2.1, S.2.2.2.2.2.2.2.2.1, x, S.2.2.2.2.2.2.2.2.2.2.1, S.2.2.2.2.2.2.2.2.2.2.2.1, S.2.2.2.2.2.2.2.2.2.2.2.2.1, S.2.2.2.2.2.2.2.2.2.2.2.2.2.1, S.2.2.2.2.2.2.2.2.2.2.2.2.2.2.1, S.2.2.2.2.2.2.2.2.2.2.2.2.2.2.2.1, S.2.2.2.2.2.2.2.2.2.2.2.2.2.2.2.2)
def ST.sAllSupplied (S : ST) (x : Int32) : ST := (S.1, S.2.1, S.2.2.1, S.2.2.2.1, S.2.2.2.2.1, S.2.2.2.2.2.1, S.2.2.2.2.2.2.1, S.2.2.2.2.2.2.2.1, S.2.2.2.2.2.2.2.2.1, S.2.2.2.2.2.2.2.2.2.1, x, S.2.2.2.2.2.2.2.2.2.2.2.1, S.2.2.2.2.2.2.2.2.2.2.2.2.1, S.2.2.2.2.2.2.2.2.2.2.2.2.2.1, S.2.2.2.2.2.2.2.2.2.2.2.2.2.2.1, S.2.2.2.2.2.2.2.2.2.2.2.2.2.2.2.1, S.2.2.2.2.2.2.2.2.2.2.2.2.2.2.2.2)
def ST.sDry (S : ST) (x : Int32) : ST := (S.1, S.2.1, S.2.2.1, S.2.2.2.1, S.2.2.2.2.1, S.2.2.2.2.2.1, S.2.2.2.2.2.2.1, S.2.2.2.2.2.2.2.1, S.2.2.2.2.2.2.2.2.1, S.2.2.2.2.2.2.2.2.2.1, S.2.2.2.2.2.2.2.2.2.2.1, x, S.2.2.2.2.2.2.2.2.2.2.2.2.1, S.2.2.2.2.2.2.2.2.2.2.2.2.2.1, S.2.2.2.2.2.2.2.2.2.2.2.2.2.2.1, S.2.2.2.2.2.2.2.2.2.2.2.2.2.2.2.1, S.2.2.2.2.2.2.2.2.2.2.2.2.2.2.2.2)
def ST.sDryMinutes (S : ST) (x : Int32) : ST := (S.1, S.2.1, S.2.2.1, S.2.2.2.1, S.2.2.2.2.1, S.2.2.2.2.2.1, S.2.2.2.2.2.2.1, S.2.2.2.2.2.2.2.1, S.2.2.2.2.2.2.2.2.1, S.2.2.2.2.2.2.2.2.2.1, S.2.2.2.2.2.2.2.2.2.2.1, S.2.2.2.2.2.2.2.2.2.2.2.1, x, S.2.2.2.2.2.2.2.2.2.2.2.2.2.1, S.2.2.2.2.2.2.2.2.2.2.2.2.2.2.1, S.2.2.2.2.2.2.2.2.2.2.2.2.2.2.2.1, S.2.2.2.2.2.2.2.2.2.2.2.2.2.2.2.2)
def ST.sTrips (S : ST) (x : Int32) : ST := (S.1, S.2.1, S.2.2.1, S.2.2.2.1, S.2.2.2.2.1, S.2.2.2.2.2.1, S.2.2.2.2.2.2.1, S.2.2.2.2.2.2.2.1, S.2.2.2.2.2.2.2.2.1, S.2.2.2.2.2.2.2.2.2.1, S.2.2.2.2.2.2.2.2.2.2.1, S.2.2.2.2.2.2.2.2.2.2.2.1, S.2.2.2.2.2.2.2.2.2.2.2.2.1, x, S.2.2.2.2.2.2.2.2.2.2.2.2.2.2.1, S.2.2.2.2.2.2.2.2.2.2.2.2.2.2.2.1, S.2.2.2.2.2.2.2.2.2.2.2.2.2.2.2.2)
def ST.sToStart (S : ST) (x : Int32) : ST := (S.1, S.2.1, S.2.2.1, S.2.2.2.1, S.2.2.2.2.1, S.2.2.2.2.2.1, S.2.2.2.2.2.2.1, S.2.2.2.2.2.2.2.1, S.2.2.2.2.2.2.2.2.1, S.2.2.2.2.2.2.2.2.2.1, S.2.2.2.2.2.2.2.2.2.2.1, S.2.2.2.2.2.2.2.2.2.2.2.1, S.2.2.2.2.2.2.2.2.2.2.2.2.1, S.2.2.2.2.2.2.2.2.2.2.2.2.2.1, x, S.2.2.2.2.2.2.2.2.2.2.2.2.2.2.2.1, S.2.2.2.2.2.2.2.2.2.2.2.2.2.2.2.2)
def ST.sToStop (S : ST) (x : Int32) : ST := (S.1, S.2.1, S.2.2.1, S.2.2.2.1, S.2.2.2.2.1, S.2.2.2.2.2.1, S.2.2.2.2.2.2.1, S.2.2.2.2.2.2.2.1, S.2.2.2.2.2.2.2.2.1, S.2.2.2.2.2.2.2.2.2.1, S.2.2.2.2.2.2.2.2.2.2.1, S.2.2.2.2.2.2.2.2.2.2.2.1, S.2.2.2.2.2.2.2.2.2.2.2.2.1, S.2.2.2.2.2.2.2.2.2.2.2.2.2.1, S.2.2.2.2.2.2.2.2.2.2.2.2.2.2.1, x, S.2.2.2.2.2.2.2.2.2.2.2.2.2.2.2.2)
def ST.sToSleep (S : ST) (x : Int32) : ST := (S.1, S.2.1, S.2.2.1, S.2.2.2.1, S.2.2.2.2.1, S.2.2.2.2.2.1, S.2.2.2.2.2.2.1, S.2.2.2.2.2.2.2.1, S.2.2.2.2.2.2.2.2.1, S.2.2.2.2.2.2.2.2.2.1, S.2.2.2.2.2.2.2.2.2.2.1, S.2.2.2.2.2.2.2.2.2.2.2.1, S.2.2.2.2.2.2.2.2.2.2.2.2.1, S.2.2.2.2.2.2.2.2.2.2.2.2.2.1, S.2.2.2.2.2.2.2.2.2.2.2.2.2.2.1, S.2.2.2.2.2.2.2.2.2.2.2.2.2.2.2.1, x)
set_option maxRecDepth 100000 in
theorem ST_gs : (∀ (S : ST) (x : (Nat → Int32)), (S.sSettings x).settings = x) ∧
  (∀ (S : ST) (x : (Nat → Int32)), (S.sSettings x).P = S.P) ∧
  (∀ (S : ST) (x : (Nat → Int32)), (S.sSettings x).Z = S.Z) ∧
  (∀ (S : ST) (x : (Nat → Int32)), (S.sSettings x).N = S.N) ∧
  (∀ (S : ST) (x : (Nat → Int32)), (S.sSettings x).E = S.E) ∧
  (∀ (S : ST) (x : (Nat → Int32)), (S.sSettings x).time = S.time) ∧
  (∀ (S : ST) (x : (Nat → Int32)), (S.sSettings x).pressure = S.pressure) ∧
  (∀ (S : ST) (x : (Nat → Int32)), (S.sSettings x).level = S.level) ∧
  (∀ (S : ST) (x : (Nat → Int32)), (S.sSettings x).leak = S.leak) ∧
  (∀ (S : ST) (x : (Nat → Int32)), (S.sSettings x).supply = S.supply) ∧
  (∀ (S : ST) (x : (Nat → Int32)), (S.sSettings x).allSupplied = S.allSupplied) ∧
  (∀ (S : ST) (x : (Nat → Int32)), (S.sSettings x).dry = S.dry) ∧
  (∀ (S : ST) (x : (Nat → Int32)), (S.sSettings x).dryMinutes = S.dryMinutes) ∧
  (∀ (S : ST) (x : (Nat → Int32)), (S.sSettings x).trips = S.trips) ∧
  (∀ (S : ST) (x : (Nat → Int32)), (S.sSettings x).toStart = S.toStart) ∧
  (∀ (S : ST) (x : (Nat → Int32)), (S.sSettings x).toStop = S.toStop) ∧
  (∀ (S : ST) (x : (Nat → Int32)), (S.sSettings x).toSleep = S.toSleep) ∧
  (∀ (S : ST) (x y : (Nat → Int32)), (S.sSettings x).sSettings y = S.sSettings y) ∧
  (∀ (S : ST) (x : PT), (S.sP x).settings = S.settings) ∧
  (∀ (S : ST) (x : PT), (S.sP x).P = x) ∧
  (∀ (S : ST) (x : PT), (S.sP x).Z = S.Z) ∧
  (∀ (S : ST) (x : PT), (S.sP x).N = S.N) ∧
  (∀ (S : ST) (x : PT), (S.sP x).E = S.E) ∧
  (∀ (S : ST) (x : PT), (S.sP x).time = S.time) ∧
  (∀ (S : ST) (x : PT), (S.sP x).pressure = S.pressure) ∧
  (∀ (S : ST) (x : PT), (S.sP x).level = S.level) ∧
  (∀ (S : ST) (x : PT), (S.sP x).leak = S.leak) ∧
  (∀ (S : ST) (x : PT), (S.sP x).supply = S.supply) ∧
  (∀ (S : ST) (x : PT), (S.sP x).allSupplied = S.allSupplied) ∧
  (∀ (S : ST) (x : PT), (S.sP x).dry = S.dry) ∧
  (∀ (S : ST) (x : PT), (S.sP x).dryMinutes = S.dryMinutes) ∧
  (∀ (S : ST) (x : PT), (S.sP x).trips = S.trips) ∧
  (∀ (S : ST) (x : PT), (S.sP x).toStart = S.toStart) ∧
  (∀ (S : ST) (x : PT), (S.sP x).toStop = S.toStop) ∧
  (∀ (S : ST) (x : PT), (S.sP x).toSleep = S.toSleep) ∧
  (∀ (S : ST) (x y : PT), (S.sP x).sP y = S.sP y) ∧
  (∀ (S : ST) (x : ZT), (S.sZ x).settings = S.settings) ∧
  (∀ (S : ST) (x : ZT), (S.sZ x).P = S.P) ∧
  (∀ (S : ST) (x : ZT), (S.sZ x).Z = x) ∧
  (∀ (S : ST) (x : ZT), (S.sZ x).N = S.N) ∧
  (∀ (S : ST) (x : ZT), (S.sZ x).E = S.E) ∧
  (∀ (S : ST) (x : ZT), (S.sZ x).time = S.time) ∧
  (∀ (S : ST) (x : ZT), (S.sZ x).pressure = S.pressure) ∧
  (∀ (S : ST) (x : ZT), (S.sZ x).level = S.level) ∧
  (∀ (S : ST) (x : ZT), (S.sZ x).leak = S.leak) ∧
  (∀ (S : ST) (x : ZT), (S.sZ x).supply = S.supply) ∧
  (∀ (S : ST) (x : ZT), (S.sZ x).allSupplied = S.allSupplied) ∧
  (∀ (S : ST) (x : ZT), (S.sZ x).dry = S.dry) ∧
  (∀ (S : ST) (x : ZT), (S.sZ x).dryMinutes = S.dryMinutes) ∧
  (∀ (S : ST) (x : ZT), (S.sZ x).trips = S.trips) ∧
  (∀ (S : ST) (x : ZT), (S.sZ x).toStart = S.toStart) ∧
  (∀ (S : ST) (x : ZT), (S.sZ x).toStop = S.toStop) ∧
  (∀ (S : ST) (x : ZT), (S.sZ x).toSleep = S.toSleep) ∧
  (∀ (S : ST) (x y : ZT), (S.sZ x).sZ y = S.sZ y) ∧
  (∀ (S : ST) (x : NT), (S.sN x).settings = S.settings) ∧
  (∀ (S : ST) (x : NT), (S.sN x).P = S.P) ∧
  (∀ (S : ST) (x : NT), (S.sN x).Z = S.Z) ∧
  (∀ (S : ST) (x : NT), (S.sN x).N = x) ∧
  (∀ (S : ST) (x : NT), (S.sN x).E = S.E) ∧
  (∀ (S : ST) (x : NT), (S.sN x).time = S.time) ∧
  (∀ (S : ST) (x : NT), (S.sN x).pressure = S.pressure) ∧
  (∀ (S : ST) (x : NT), (S.sN x).level = S.level) ∧
  (∀ (S : ST) (x : NT), (S.sN x).leak = S.leak) ∧
  (∀ (S : ST) (x : NT), (S.sN x).supply = S.supply) ∧
  (∀ (S : ST) (x : NT), (S.sN x).allSupplied = S.allSupplied) ∧
  (∀ (S : ST) (x : NT), (S.sN x).dry = S.dry) ∧
  (∀ (S : ST) (x : NT), (S.sN x).dryMinutes = S.dryMinutes) ∧
  (∀ (S : ST) (x : NT), (S.sN x).trips = S.trips) ∧
  (∀ (S : ST) (x : NT), (S.sN x).toStart = S.toStart) ∧
  (∀ (S : ST) (x : NT), (S.sN x).toStop = S.toStop) ∧
  (∀ (S : ST) (x : NT), (S.sN x).toSleep = S.toSleep) ∧
  (∀ (S : ST) (x y : NT), (S.sN x).sN y = S.sN y) ∧
  (∀ (S : ST) (x : ET), (S.sE x).settings = S.settings) ∧
  (∀ (S : ST) (x : ET), (S.sE x).P = S.P) ∧
  (∀ (S : ST) (x : ET), (S.sE x).Z = S.Z) ∧
  (∀ (S : ST) (x : ET), (S.sE x).N = S.N) ∧
  (∀ (S : ST) (x : ET), (S.sE x).E = x) ∧
  (∀ (S : ST) (x : ET), (S.sE x).time = S.time) ∧
  (∀ (S : ST) (x : ET), (S.sE x).pressure = S.pressure) ∧
  (∀ (S : ST) (x : ET), (S.sE x).level = S.level) ∧
  (∀ (S : ST) (x : ET), (S.sE x).leak = S.leak) ∧
  (∀ (S : ST) (x : ET), (S.sE x).supply = S.supply) ∧
  (∀ (S : ST) (x : ET), (S.sE x).allSupplied = S.allSupplied) ∧
  (∀ (S : ST) (x : ET), (S.sE x).dry = S.dry) ∧
  (∀ (S : ST) (x : ET), (S.sE x).dryMinutes = S.dryMinutes) ∧
  (∀ (S : ST) (x : ET), (S.sE x).trips = S.trips) ∧
  (∀ (S : ST) (x : ET), (S.sE x).toStart = S.toStart) ∧
  (∀ (S : ST) (x : ET), (S.sE x).toStop = S.toStop) ∧
  (∀ (S : ST) (x : ET), (S.sE x).toSleep = S.toSleep) ∧
  (∀ (S : ST) (x y : ET), (S.sE x).sE y = S.sE y) ∧
  (∀ (S : ST) (x : Int32), (S.sTime x).settings = S.settings) ∧
  (∀ (S : ST) (x : Int32), (S.sTime x).P = S.P) ∧
  (∀ (S : ST) (x : Int32), (S.sTime x).Z = S.Z) ∧
  (∀ (S : ST) (x : Int32), (S.sTime x).N = S.N) ∧
  (∀ (S : ST) (x : Int32), (S.sTime x).E = S.E) ∧
  (∀ (S : ST) (x : Int32), (S.sTime x).time = x) ∧
  (∀ (S : ST) (x : Int32), (S.sTime x).pressure = S.pressure) ∧
  (∀ (S : ST) (x : Int32), (S.sTime x).level = S.level) ∧
  (∀ (S : ST) (x : Int32), (S.sTime x).leak = S.leak) ∧
  (∀ (S : ST) (x : Int32), (S.sTime x).supply = S.supply) ∧
  (∀ (S : ST) (x : Int32), (S.sTime x).allSupplied = S.allSupplied) ∧
  (∀ (S : ST) (x : Int32), (S.sTime x).dry = S.dry) ∧
  (∀ (S : ST) (x : Int32), (S.sTime x).dryMinutes = S.dryMinutes) ∧
  (∀ (S : ST) (x : Int32), (S.sTime x).trips = S.trips) ∧
  (∀ (S : ST) (x : Int32), (S.sTime x).toStart = S.toStart) ∧
  (∀ (S : ST) (x : Int32), (S.sTime x).toStop = S.toStop) ∧
  (∀ (S : ST) (x : Int32), (S.sTime x).toSleep = S.toSleep) ∧
  (∀ (S : ST) (x y : Int32), (S.sTime x).sTime y = S.sTime y) ∧
  (∀ (S : ST) (x : Int32), (S.sPressure x).settings = S.settings) ∧
  (∀ (S : ST) (x : Int32), (S.sPressure x).P = S.P) ∧
  (∀ (S : ST) (x : Int32), (S.sPressure x).Z = S.Z) ∧
  (∀ (S : ST) (x : Int32), (S.sPressure x).N = S.N) ∧
  (∀ (S : ST) (x : Int32), (S.sPressure x).E = S.E) ∧
  (∀ (S : ST) (x : Int32), (S.sPressure x).time = S.time) ∧
  (∀ (S : ST) (x : Int32), (S.sPressure x).pressure = x) ∧
  (∀ (S : ST) (x : Int32), (S.sPressure x).level = S.level) ∧
  (∀ (S : ST) (x : Int32), (S.sPressure x).leak = S.leak) ∧
  (∀ (S : ST) (x : Int32), (S.sPressure x).supply = S.supply) ∧
  (∀ (S : ST) (x : Int32), (S.sPressure x).allSupplied = S.allSupplied) ∧
  (∀ (S : ST) (x : Int32), (S.sPressure x).dry = S.dry) ∧
  (∀ (S : ST) (x : Int32), (S.sPressure x).dryMinutes = S.dryMinutes) ∧
  (∀ (S : ST) (x : Int32), (S.sPressure x).trips = S.trips) ∧
  (∀ (S : ST) (x : Int32), (S.sPressure x).toStart = S.toStart) ∧
  (∀ (S : ST) (x : Int32), (S.sPressure x).toStop = S.toStop) ∧
  (∀ (S : ST) (x : Int32), (S.sPressure x).toSleep = S.toSleep) ∧
  (∀ (S : ST) (x y : Int32), (S.sPressure x).sPressure y = S.sPressure y) ∧
  (∀ (S : ST) (x : Int32), (S.sLevel x).settings = S.settings) ∧
  (∀ (S : ST) (x : Int32), (S.sLevel x).P = S.P) ∧
  (∀ (S : ST) (x : Int32), (S.sLevel x).Z = S.Z) ∧
  (∀ (S : ST) (x : Int32), (S.sLevel x).N = S.N) ∧
  (∀ (S : ST) (x : Int32), (S.sLevel x).E = S.E) ∧
  (∀ (S : ST) (x : Int32), (S.sLevel x).time = S.time) ∧
  (∀ (S : ST) (x : Int32), (S.sLevel x).pressure = S.pressure) ∧
  (∀ (S : ST) (x : Int32), (S.sLevel x).level = x) ∧
  (∀ (S : ST) (x : Int32), (S.sLevel x).leak = S.leak) ∧
  (∀ (S : ST) (x : Int32), (S.sLevel x).supply = S.supply) ∧
  (∀ (S : ST) (x : Int32), (S.sLevel x).allSupplied = S.allSupplied) ∧
  (∀ (S : ST) (x : Int32), (S.sLevel x).dry = S.dry) ∧
  (∀ (S : ST) (x : Int32), (S.sLevel x).dryMinutes = S.dryMinutes) ∧
  (∀ (S : ST) (x : Int32), (S.sLevel x).trips = S.trips) ∧
  (∀ (S : ST) (x : Int32), (S.sLevel x).toStart = S.toStart) ∧
  (∀ (S : ST) (x : Int32), (S.sLevel x).toStop = S.toStop) ∧
  (∀ (S : ST) (x : Int32), (S.sLevel x).toSleep = S.toSleep) ∧
  (∀ (S : ST) (x y : Int32), (S.sLevel x).sLevel y = S.sLevel y) ∧
  (∀ (S : ST) (x : Int32), (S.sLeak x).settings = S.settings) ∧
  (∀ (S : ST) (x : Int32), (S.sLeak x).P = S.P) ∧
  (∀ (S : ST) (x : Int32), (S.sLeak x).Z = S.Z) ∧
  (∀ (S : ST) (x : Int32), (S.sLeak x).N = S.N) ∧
  (∀ (S : ST) (x : Int32), (S.sLeak x).E = S.E) ∧
  (∀ (S : ST) (x : Int32), (S.sLeak x).time = S.time) ∧
  (∀ (S : ST) (x : Int32), (S.sLeak x).pressure = S.pressure) ∧
  (∀ (S : ST) (x : Int32), (S.sLeak x).level = S.level) ∧
  (∀ (S : ST) (x : Int32), (S.sLeak x).leak = x) ∧
  (∀ (S : ST) (x : Int32), (S.sLeak x).supply = S.supply) ∧
  (∀ (S : ST) (x : Int32), (S.sLeak x).allSupplied = S.allSupplied) ∧
  (∀ (S : ST) (x : Int32), (S.sLeak x).dry = S.dry) ∧
  (∀ (S : ST) (x : Int32), (S.sLeak x).dryMinutes = S.dryMinutes) ∧
  (∀ (S : ST) (x : Int32), (S.sLeak x).trips = S.trips) ∧
  (∀ (S : ST) (x : Int32), (S.sLeak x).toStart = S.toStart) ∧
  (∀ (S : ST) (x : Int32), (S.sLeak x).toStop = S.toStop) ∧
  (∀ (S : ST) (x : Int32), (S.sLeak x).toSleep = S.toSleep) ∧
  (∀ (S : ST) (x y : Int32), (S.sLeak x).sLeak y = S.sLeak y) ∧
  (∀ (S : ST) (x : Int32), (S.sSupply x).settings = S.settings) ∧
  (∀ (S : ST) (x : Int32), (S.sSupply x).P = S.P) ∧
  (∀ (S : ST) (x : Int32), (S.sSupply x).Z = S.Z) ∧
  (∀ (S : ST) (x : Int32), (S.sSupply x).N = S.N) ∧
  (∀ (S : ST) (x : Int32), (S.sSupply x).E = S.E) ∧
  (∀ (S : ST) (x : Int32), (S.sSupply x).time = S.time) ∧
  (∀ (S : ST) (x : Int32), (S.sSupply x).pressure = S.pressure) ∧
  (∀ (S : ST) (x : Int32), (S.sSupply x).level = S.level) ∧
  (∀ (S : ST) (x : Int32), (S.sSupply x).leak = S.leak) ∧
  (∀ (S : ST) (x : Int32), (S.sSupply x).supply = x) ∧
  (∀ (S : ST) (x : Int32), (S.sSupply x).allSupplied = S.allSupplied) ∧
  (∀ (S : ST) (x : Int32), (S.sSupply x).dry = S.dry) ∧
  (∀ (S : ST) (x : Int32), (S.sSupply x).dryMinutes = S.dryMinutes) ∧
  (∀ (S : ST) (x : Int32), (S.sSupply x).trips = S.trips) ∧
  (∀ (S : ST) (x : Int32), (S.sSupply x).toStart = S.toStart) ∧
  (∀ (S : ST) (x : Int32), (S.sSupply x).toStop = S.toStop) ∧
  (∀ (S : ST) (x : Int32), (S.sSupply x).toSleep = S.toSleep) ∧
  (∀ (S : ST) (x y : Int32), (S.sSupply x).sSupply y = S.sSupply y) ∧
  (∀ (S : ST) (x : Int32), (S.sAllSupplied x).settings = S.settings) ∧
  (∀ (S : ST) (x : Int32), (S.sAllSupplied x).P = S.P) ∧
  (∀ (S : ST) (x : Int32), (S.sAllSupplied x).Z = S.Z) ∧
  (∀ (S : ST) (x : Int32), (S.sAllSupplied x).N = S.N) ∧
  (∀ (S : ST) (x : Int32), (S.sAllSupplied x).E = S.E) ∧
  (∀ (S : ST) (x : Int32), (S.sAllSupplied x).time = S.time) ∧
  (∀ (S : ST) (x : Int32), (S.sAllSupplied x).pressure = S.pressure) ∧
  (∀ (S : ST) (x : Int32), (S.sAllSupplied x).level = S.level) ∧
  (∀ (S : ST) (x : Int32), (S.sAllSupplied x).leak = S.leak) ∧
  (∀ (S : ST) (x : Int32), (S.sAllSupplied x).supply = S.supply) ∧
  (∀ (S : ST) (x : Int32), (S.sAllSupplied x).allSupplied = x) ∧
  (∀ (S : ST) (x : Int32), (S.sAllSupplied x).dry = S.dry) ∧
  (∀ (S : ST) (x : Int32), (S.sAllSupplied x).dryMinutes = S.dryMinutes) ∧
  (∀ (S : ST) (x : Int32), (S.sAllSupplied x).trips = S.trips) ∧
  (∀ (S : ST) (x : Int32), (S.sAllSupplied x).toStart = S.toStart) ∧
  (∀ (S : ST) (x : Int32), (S.sAllSupplied x).toStop = S.toStop) ∧
  (∀ (S : ST) (x : Int32), (S.sAllSupplied x).toSleep = S.toSleep) ∧
  (∀ (S : ST) (x y : Int32), (S.sAllSupplied x).sAllSupplied y = S.sAllSupplied y) ∧
  (∀ (S : ST) (x : Int32), (S.sDry x).settings = S.settings) ∧
  (∀ (S : ST) (x : Int32), (S.sDry x).P = S.P) ∧
  (∀ (S : ST) (x : Int32), (S.sDry x).Z = S.Z) ∧
  (∀ (S : ST) (x : Int32), (S.sDry x).N = S.N) ∧
  (∀ (S : ST) (x : Int32), (S.sDry x).E = S.E) ∧
  (∀ (S : ST) (x : Int32), (S.sDry x).time = S.time) ∧
  (∀ (S : ST) (x : Int32), (S.sDry x).pressure = S.pressure) ∧
  (∀ (S : ST) (x : Int32), (S.sDry x).level = S.level) ∧
  (∀ (S : ST) (x : Int32), (S.sDry x).leak = S.leak) ∧
  (∀ (S : ST) (x : Int32), (S.sDry x).supply = S.supply) ∧
  (∀ (S : ST) (x : Int32), (S.sDry x).allSupplied = S.allSupplied) ∧
  (∀ (S : ST) (x : Int32), (S.sDry x).dry = x) ∧
  (∀ (S : ST) (x : Int32), (S.sDry x).dryMinutes = S.dryMinutes) ∧
  (∀ (S : ST) (x : Int32), (S.sDry x).trips = S.trips) ∧
  (∀ (S : ST) (x : Int32), (S.sDry x).toStart = S.toStart) ∧
  (∀ (S : ST) (x : Int32), (S.sDry x).toStop = S.toStop) ∧
  (∀ (S : ST) (x : Int32), (S.sDry x).toSleep = S.toSleep) ∧
  (∀ (S : ST) (x y : Int32), (S.sDry x).sDry y = S.sDry y) ∧
  (∀ (S : ST) (x : Int32), (S.sDryMinutes x).settings = S.settings) ∧
  (∀ (S : ST) (x : Int32), (S.sDryMinutes x).P = S.P) ∧
  (∀ (S : ST) (x : Int32), (S.sDryMinutes x).Z = S.Z) ∧
  (∀ (S : ST) (x : Int32), (S.sDryMinutes x).N = S.N) ∧
  (∀ (S : ST) (x : Int32), (S.sDryMinutes x).E = S.E) ∧
  (∀ (S : ST) (x : Int32), (S.sDryMinutes x).time = S.time) ∧
  (∀ (S : ST) (x : Int32), (S.sDryMinutes x).pressure = S.pressure) ∧
  (∀ (S : ST) (x : Int32), (S.sDryMinutes x).level = S.level) ∧
  (∀ (S : ST) (x : Int32), (S.sDryMinutes x).leak = S.leak) ∧
  (∀ (S : ST) (x : Int32), (S.sDryMinutes x).supply = S.supply) ∧
  (∀ (S : ST) (x : Int32), (S.sDryMinutes x).allSupplied = S.allSupplied) ∧
  (∀ (S : ST) (x : Int32), (S.sDryMinutes x).dry = S.dry) ∧
  (∀ (S : ST) (x : Int32), (S.sDryMinutes x).dryMinutes = x) ∧
  (∀ (S : ST) (x : Int32), (S.sDryMinutes x).trips = S.trips) ∧
  (∀ (S : ST) (x : Int32), (S.sDryMinutes x).toStart = S.toStart) ∧
  (∀ (S : ST) (x : Int32), (S.sDryMinutes x).toStop = S.toStop) ∧
  (∀ (S : ST) (x : Int32), (S.sDryMinutes x).toSleep = S.toSleep) ∧
  (∀ (S : ST) (x y : Int32), (S.sDryMinutes x).sDryMinutes y = S.sDryMinutes y) ∧
  (∀ (S : ST) (x : Int32), (S.sTrips x).settings = S.settings) ∧
  (∀ (S : ST) (x : Int32), (S.sTrips x).P = S.P) ∧
  (∀ (S : ST) (x : Int32), (S.sTrips x).Z = S.Z) ∧
  (∀ (S : ST) (x : Int32), (S.sTrips x).N = S.N) ∧
  (∀ (S : ST) (x : Int32), (S.sTrips x).E = S.E) ∧
  (∀ (S : ST) (x : Int32), (S.sTrips x).time = S.time) ∧
  (∀ (S : ST) (x : Int32), (S.sTrips x).pressure = S.pressure) ∧
  (∀ (S : ST) (x : Int32), (S.sTrips x).level = S.level) ∧
  (∀ (S : ST) (x : Int32), (S.sTrips x).leak = S.leak) ∧
  (∀ (S : ST) (x : Int32), (S.sTrips x).supply = S.supply) ∧
  (∀ (S : ST) (x : Int32), (S.sTrips x).allSupplied = S.allSupplied) ∧
  (∀ (S : ST) (x : Int32), (S.sTrips x).dry = S.dry) ∧
  (∀ (S : ST) (x : Int32), (S.sTrips x).dryMinutes = S.dryMinutes) ∧
  (∀ (S : ST) (x : Int32), (S.sTrips x).trips = x) ∧
  (∀ (S : ST) (x : Int32), (S.sTrips x).toStart = S.toStart) ∧
  (∀ (S : ST) (x : Int32), (S.sTrips x).toStop = S.toStop) ∧
  (∀ (S : ST) (x : Int32), (S.sTrips x).toSleep = S.toSleep) ∧
  (∀ (S : ST) (x y : Int32), (S.sTrips x).sTrips y = S.sTrips y) ∧
  (∀ (S : ST) (x : Int32), (S.sToStart x).settings = S.settings) ∧
  (∀ (S : ST) (x : Int32), (S.sToStart x).P = S.P) ∧
  (∀ (S : ST) (x : Int32), (S.sToStart x).Z = S.Z) ∧
  (∀ (S : ST) (x : Int32), (S.sToStart x).N = S.N) ∧
  (∀ (S : ST) (x : Int32), (S.sToStart x).E = S.E) ∧
  (∀ (S : ST) (x : Int32), (S.sToStart x).time = S.time) ∧
  (∀ (S : ST) (x : Int32), (S.sToStart x).pressure = S.pressure) ∧
  (∀ (S : ST) (x : Int32), (S.sToStart x).level = S.level) ∧
  (∀ (S : ST) (x : Int32), (S.sToStart x).leak = S.leak) ∧
  (∀ (S : ST) (x : Int32), (S.sToStart x).supply = S.supply) ∧
  (∀ (S : ST) (x : Int32), (S.sToStart x).allSupplied = S.allSupplied) ∧
  (∀ (S : ST) (x : Int32), (S.sToStart x).dry = S.dry) ∧
  (∀ (S : ST) (x : Int32), (S.sToStart x).dryMinutes = S.dryMinutes) ∧
  (∀ (S : ST) (x : Int32), (S.sToStart x).trips = S.trips) ∧
  (∀ (S : ST) (x : Int32), (S.sToStart x).toStart = x) ∧
  (∀ (S : ST) (x : Int32), (S.sToStart x).toStop = S.toStop) ∧
  (∀ (S : ST) (x : Int32), (S.sToStart x).toSleep = S.toSleep) ∧
  (∀ (S : ST) (x y : Int32), (S.sToStart x).sToStart y = S.sToStart y) ∧
  (∀ (S : ST) (x : Int32), (S.sToStop x).settings = S.settings) ∧
  (∀ (S : ST) (x : Int32), (S.sToStop x).P = S.P) ∧
  (∀ (S : ST) (x : Int32), (S.sToStop x).Z = S.Z) ∧
  (∀ (S : ST) (x : Int32), (S.sToStop x).N = S.N) ∧
  (∀ (S : ST) (x : Int32), (S.sToStop x).E = S.E) ∧
  (∀ (S : ST) (x : Int32), (S.sToStop x).time = S.time) ∧
  (∀ (S : ST) (x : Int32), (S.sToStop x).pressure = S.pressure) ∧
  (∀ (S : ST) (x : Int32), (S.sToStop x).level = S.level) ∧
  (∀ (S : ST) (x : Int32), (S.sToStop x).leak = S.leak) ∧
  (∀ (S : ST) (x : Int32), (S.sToStop x).supply = S.supply) ∧
  (∀ (S : ST) (x : Int32), (S.sToStop x).allSupplied = S.allSupplied) ∧
  (∀ (S : ST) (x : Int32), (S.sToStop x).dry = S.dry) ∧
  (∀ (S : ST) (x : Int32), (S.sToStop x).dryMinutes = S.dryMinutes) ∧
  (∀ (S : ST) (x : Int32), (S.sToStop x).trips = S.trips) ∧
  (∀ (S : ST) (x : Int32), (S.sToStop x).toStart = S.toStart) ∧
  (∀ (S : ST) (x : Int32), (S.sToStop x).toStop = x) ∧
  (∀ (S : ST) (x : Int32), (S.sToStop x).toSleep = S.toSleep) ∧
  (∀ (S : ST) (x y : Int32), (S.sToStop x).sToStop y = S.sToStop y) ∧
  (∀ (S : ST) (x : Int32), (S.sToSleep x).settings = S.settings) ∧
  (∀ (S : ST) (x : Int32), (S.sToSleep x).P = S.P) ∧
  (∀ (S : ST) (x : Int32), (S.sToSleep x).Z = S.Z) ∧
  (∀ (S : ST) (x : Int32), (S.sToSleep x).N = S.N) ∧
  (∀ (S : ST) (x : Int32), (S.sToSleep x).E = S.E) ∧
  (∀ (S : ST) (x : Int32), (S.sToSleep x).time = S.time) ∧
  (∀ (S : ST) (x : Int32), (S.sToSleep x).pressure = S.pressure) ∧
  (∀ (S : ST) (x : Int32), (S.sToSleep x).level = S.level) ∧
  (∀ (S : ST) (x : Int32), (S.sToSleep x).leak = S.leak) ∧
  (∀ (S : ST) (x : Int32), (S.sToSleep x).supply = S.supply) ∧
  (∀ (S : ST) (x : Int32), (S.sToSleep x).allSupplied = S.allSupplied) ∧
  (∀ (S : ST) (x : Int32), (S.sToSleep x).dry = S.dry) ∧
  (∀ (S : ST) (x : Int32), (S.sToSleep x).dryMinutes = S.dryMinutes) ∧
  (∀ (S : ST) (x : Int32), (S.sToSleep x).trips = S.trips) ∧
  (∀ (S : ST) (x : Int32), (S.sToSleep x).toStart = S.toStart) ∧
  (∀ (S : ST) (x : Int32), (S.sToSleep x).toStop = S.toStop) ∧
  (∀ (S : ST) (x : Int32), (S.sToSleep x).toSleep = x) ∧
  (∀ (S : ST) (x y : Int32), (S.sToSleep x).sToSleep y = S.sToSleep y) := by
  repeat' apply And.intro
  all_goals (intros; rfl)
theorem ST.ext' {a b : ST} (h0 : a.settings = b.settings) (h1 : a.P = b.P) (h2 : a.Z = b.Z) (h3 : a.N = b.N) (h4 : a.E = b.E) (h5 : a.time = b.time) (h6 : a.pressure = b.pressure) (h7 : a.level = b.level) (h8 : a.leak = b.leak) (h9 : a.supply = b.supply) (h10 : a.allSupplied = b.allSupplied) (h11 : a.dry = b.dry) (h12 : a.dryMinutes = b.dryMinutes) (h13 : a.trips = b.trips) (h14 : a.toStart = b.toStart) (h15 : a.toStop = b.toStop) (h16 : a.toSleep = b.toSleep) : a = b := by
  unfold ST.settings ST.P ST.Z ST.N ST.E ST.time ST.pressure ST.level ST.leak ST.supply ST.allSupplied ST.dry ST.dryMinutes ST.trips ST.toStart ST.toStop ST.toSleep at *
  exact Prod.ext h0 (Prod.ext h1 (Prod.ext h2 (Prod.ext h3 (Prod.ext h4 (Prod.ext h5 (Prod.ext h6 (Prod.ext h7 (Prod.ext h8 (Prod.ext h9 (Prod.ext h10 (Prod.ext h11 (Prod.ext h12 (Prod.ext h13 (Prod.ext h14 (Prod.ext h15 h16)))))))))))))))
abbrev FT : Type := ST × ST × (Nat → Option Nat) × Int32 × OT × ST × ST × ST × ST
def FT.now (S : FT) : ST := S.1
def FT.trial (S : FT) : ST := S.2.1
def FT.perm (S : FT) : (Nat → Option Nat) := S.2.2.1
def FT.states (S : FT) : Int32 := S.2.2.2.1
def FT.O (S : FT) : OT := S.2.2.2.2.1
def FT.h0 (S : FT) : ST := S.2.2.2.2.2.1
def FT.h1 (S : FT) : ST := S.2.2.2.2.2.2.1
def FT.h2 (S : FT) : ST := S.2.2.2.2.2.2.2.1
def FT.h3 (S : FT) : ST := S.2.2.2.2.2.2.2.2
def FT.sNow (S : FT) (x : ST) : FT := (x, S.2.1, S.2.2.1, S.2.2.2.1, S.2.2.2.2.1, S.2.2.2.2.2.1, S.2.2.2.2.2.2.1, S.2.2.2.2.2.2.2.1, S.2.2.2.2.2.2.2.2)
def FT.sTrial (S : FT) (x : ST) : FT := (S.1, x, S.2.2.1, S.2.2.2.1, S.2.2.2.2.1, S.2.2.2.2.2.1, S.2.2.2.2.2.2.1, S.2.2.2.2.2.2.2.1, S.2.2.2.2.2.2.2.2)
def FT.sPerm (S : FT) (x : (Nat → Option Nat)) : FT := (S.1, S.2.1, x, S.2.2.2.1, S.2.2.2.2.1, S.2.2.2.2.2.1, S.2.2.2.2.2.2.1, S.2.2.2.2.2.2.2.1, S.2.2.2.2.2.2.2.2)
def FT.sStates (S : FT) (x : Int32) : FT := (S.1, S.2.1, S.2.2.1, x, S.2.2.2.2.1, S.2.2.2.2.2.1, S.2.2.2.2.2.2.1, S.2.2.2.2.2.2.2.1, S.2.2.2.2.2.2.2.2)
def FT.sO (S : FT) (x : OT) : FT := (S.1, S.2.1, S.2.2.1, S.2.2.2.1, x, S.2.2.2.2.2.1, S.2.2.2.2.2.2.1, S.2.2.2.2.2.2.2.1, S.2.2.2.2.2.2.2.2)
def FT.sH0 (S : FT) (x : ST) : FT := (S.1, S.2.1, S.2.2.1, S.2.2.2.1, S.2.2.2.2.1, x, S.2.2.2.2.2.2.1, S.2.2.2.2.2.2.2.1, S.2.2.2.2.2.2.2.2)
def FT.sH1 (S : FT) (x : ST) : FT := (S.1, S.2.1, S.2.2.1, S.2.2.2.1, S.2.2.2.2.1, S.2.2.2.2.2.1, x, S.2.2.2.2.2.2.2.1, S.2.2.2.2.2.2.2.2)
def FT.sH2 (S : FT) (x : ST) : FT := (S.1, S.2.1, S.2.2.1, S.2.2.2.1, S.2.2.2.2.1, S.2.2.2.2.2.1, S.2.2.2.2.2.2.1, x, S.2.2.2.2.2.2.2.2)
def FT.sH3 (S : FT) (x : ST) : FT := (S.1, S.2.1, S.2.2.1, S.2.2.2.1, S.2.2.2.2.1, S.2.2.2.2.2.1, S.2.2.2.2.2.2.1, S.2.2.2.2.2.2.2.1, x)
set_option maxRecDepth 100000 in
theorem FT_gs : (∀ (S : FT) (x : ST), (S.sNow x).now = x) ∧
  (∀ (S : FT) (x : ST), (S.sNow x).trial = S.trial) ∧
  (∀ (S : FT) (x : ST), (S.sNow x).perm = S.perm) ∧
  (∀ (S : FT) (x : ST), (S.sNow x).states = S.states) ∧
  (∀ (S : FT) (x : ST), (S.sNow x).O = S.O) ∧
  (∀ (S : FT) (x : ST), (S.sNow x).h0 = S.h0) ∧
  (∀ (S : FT) (x : ST), (S.sNow x).h1 = S.h1) ∧
  (∀ (S : FT) (x : ST), (S.sNow x).h2 = S.h2) ∧
  (∀ (S : FT) (x : ST), (S.sNow x).h3 = S.h3) ∧
  (∀ (S : FT) (x y : ST), (S.sNow x).sNow y = S.sNow y) ∧
  (∀ (S : FT) (x : ST), (S.sTrial x).now = S.now) ∧
  (∀ (S : FT) (x : ST), (S.sTrial x).trial = x) ∧
  (∀ (S : FT) (x : ST), (S.sTrial x).perm = S.perm) ∧
  (∀ (S : FT) (x : ST), (S.sTrial x).states = S.states) ∧
  (∀ (S : FT) (x : ST), (S.sTrial x).O = S.O) ∧
  (∀ (S : FT) (x : ST), (S.sTrial x).h0 = S.h0) ∧
  (∀ (S : FT) (x : ST), (S.sTrial x).h1 = S.h1) ∧
  (∀ (S : FT) (x : ST), (S.sTrial x).h2 = S.h2) ∧
  (∀ (S : FT) (x : ST), (S.sTrial x).h3 = S.h3) ∧
  (∀ (S : FT) (x y : ST), (S.sTrial x).sTrial y = S.sTrial y) ∧
  (∀ (S : FT) (x : (Nat → Option Nat)), (S.sPerm x).now = S.now) ∧
  (∀ (S : FT) (x : (Nat → Option Nat)), (S.sPerm x).trial = S.trial) ∧
  (∀ (S : FT) (x : (Nat → Option Nat)), (S.sPerm x).perm = x) ∧
  (∀ (S : FT) (x : (Nat → Option Nat)), (S.sPerm x).states = S.states) ∧
  (∀ (S : FT) (x : (Nat → Option Nat)), (S.sPerm x).O = S.O) ∧
  (∀ (S : FT) (x : (Nat → Option Nat)), (S.sPerm x).h0 = S.h0) ∧
  (∀ (S : FT) (x : (Nat → Option Nat)), (S.sPerm x).h1 = S.h1) ∧
  (∀ (S : FT) (x : (Nat → Option Nat)), (S.sPerm x).h2 = S.h2) ∧
  (∀ (S : FT) (x : (Nat → Option Nat)), (S.sPerm x).h3 = S.h3) ∧
  (∀ (S : FT) (x y : (Nat → Option Nat)), (S.sPerm x).sPerm y = S.sPerm y) ∧
  (∀ (S : FT) (x : Int32), (S.sStates x).now = S.now) ∧
  (∀ (S : FT) (x : Int32), (S.sStates x).trial = S.trial) ∧
  (∀ (S : FT) (x : Int32), (S.sStates x).perm = S.perm) ∧
  (∀ (S : FT) (x : Int32), (S.sStates x).states = x) ∧
  (∀ (S : FT) (x : Int32), (S.sStates x).O = S.O) ∧
  (∀ (S : FT) (x : Int32), (S.sStates x).h0 = S.h0) ∧
  (∀ (S : FT) (x : Int32), (S.sStates x).h1 = S.h1) ∧
  (∀ (S : FT) (x : Int32), (S.sStates x).h2 = S.h2) ∧
  (∀ (S : FT) (x : Int32), (S.sStates x).h3 = S.h3) ∧
  (∀ (S : FT) (x y : Int32), (S.sStates x).sStates y = S.sStates y) ∧
  (∀ (S : FT) (x : OT), (S.sO x).now = S.now) ∧
  (∀ (S : FT) (x : OT), (S.sO x).trial = S.trial) ∧
  (∀ (S : FT) (x : OT), (S.sO x).perm = S.perm) ∧
  (∀ (S : FT) (x : OT), (S.sO x).states = S.states) ∧
  (∀ (S : FT) (x : OT), (S.sO x).O = x) ∧
  (∀ (S : FT) (x : OT), (S.sO x).h0 = S.h0) ∧
  (∀ (S : FT) (x : OT), (S.sO x).h1 = S.h1) ∧
  (∀ (S : FT) (x : OT), (S.sO x).h2 = S.h2) ∧
  (∀ (S : FT) (x : OT), (S.sO x).h3 = S.h3) ∧
  (∀ (S : FT) (x y : OT), (S.sO x).sO y = S.sO y) ∧
  (∀ (S : FT) (x : ST), (S.sH0 x).now = S.now) ∧
  (∀ (S : FT) (x : ST), (S.sH0 x).trial = S.trial) ∧
  (∀ (S : FT) (x : ST), (S.sH0 x).perm = S.perm) ∧
  (∀ (S : FT) (x : ST), (S.sH0 x).states = S.states) ∧
  (∀ (S : FT) (x : ST), (S.sH0 x).O = S.O) ∧
  (∀ (S : FT) (x : ST), (S.sH0 x).h0 = x) ∧
  (∀ (S : FT) (x : ST), (S.sH0 x).h1 = S.h1) ∧
  (∀ (S : FT) (x : ST), (S.sH0 x).h2 = S.h2) ∧
  (∀ (S : FT) (x : ST), (S.sH0 x).h3 = S.h3) ∧
  (∀ (S : FT) (x y : ST), (S.sH0 x).sH0 y = S.sH0 y) ∧
  (∀ (S : FT) (x : ST), (S.sH1 x).now = S.now) ∧
  (∀ (S : FT) (x : ST), (S.sH1 x).trial = S.trial) ∧
  (∀ (S : FT) (x : ST), (S.sH1 x).perm = S.perm) ∧
  (∀ (S : FT) (x : ST), (S.sH1 x).states = S.states) ∧
  (∀ (S : FT) (x : ST), (S.sH1 x).O = S.O) ∧
  (∀ (S : FT) (x : ST), (S.sH1 x).h0 = S.h0) ∧
  (∀ (S : FT) (x : ST), (S.sH1 x).h1 = x) ∧
  (∀ (S : FT) (x : ST), (S.sH1 x).h2 = S.h2) ∧
  (∀ (S : FT) (x : ST), (S.sH1 x).h3 = S.h3) ∧
  (∀ (S : FT) (x y : ST), (S.sH1 x).sH1 y = S.sH1 y) ∧
  (∀ (S : FT) (x : ST), (S.sH2 x).now = S.now) ∧
  (∀ (S : FT) (x : ST), (S.sH2 x).trial = S.trial) ∧
  (∀ (S : FT) (x : ST), (S.sH2 x).perm = S.perm) ∧
  (∀ (S : FT) (x : ST), (S.sH2 x).states = S.states) ∧
  (∀ (S : FT) (x : ST), (S.sH2 x).O = S.O) ∧
  (∀ (S : FT) (x : ST), (S.sH2 x).h0 = S.h0) ∧
  (∀ (S : FT) (x : ST), (S.sH2 x).h1 = S.h1) ∧
  (∀ (S : FT) (x : ST), (S.sH2 x).h2 = x) ∧
  (∀ (S : FT) (x : ST), (S.sH2 x).h3 = S.h3) ∧
  (∀ (S : FT) (x y : ST), (S.sH2 x).sH2 y = S.sH2 y) ∧
  (∀ (S : FT) (x : ST), (S.sH3 x).now = S.now) ∧
  (∀ (S : FT) (x : ST), (S.sH3 x).trial = S.trial) ∧
  (∀ (S : FT) (x : ST), (S.sH3 x).perm = S.perm) ∧
  (∀ (S : FT) (x : ST), (S.sH3 x).states = S.states) ∧
  (∀ (S : FT) (x : ST), (S.sH3 x).O = S.O) ∧
  (∀ (S : FT) (x : ST), (S.sH3 x).h0 = S.h0) ∧
  (∀ (S : FT) (x : ST), (S.sH3 x).h1 = S.h1) ∧
  (∀ (S : FT) (x : ST), (S.sH3 x).h2 = S.h2) ∧
  (∀ (S : FT) (x : ST), (S.sH3 x).h3 = x) ∧
  (∀ (S : FT) (x y : ST), (S.sH3 x).sH3 y = S.sH3 y) := by
  repeat' apply And.intro
  all_goals (intros; rfl)
theorem FT.ext' {a b : FT} (h0 : a.now = b.now) (h1 : a.trial = b.trial) (h2 : a.perm = b.perm) (h3 : a.states = b.states) (h4 : a.O = b.O) (h5 : a.h0 = b.h0) (h6 : a.h1 = b.h1) (h7 : a.h2 = b.h2) (h8 : a.h3 = b.h3) : a = b := by
  unfold FT.now FT.trial FT.perm FT.states FT.O FT.h0 FT.h1 FT.h2 FT.h3 at *
  exact Prod.ext h0 (Prod.ext h1 (Prod.ext h2 (Prod.ext h3 (Prod.ext h4 (Prod.ext h5 (Prod.ext h6 (Prod.ext h7 h8)))))))
abbrev sh (b : Nat) (w : xW) : xW := w.map (xcr (fun i => b + i))
def eW (S : ET) : xW := [.inr (.inl (0, [.ref 1, .ref 2, .ref 3, .ref 4, .int S.all])), .inl (0, 12, S.kinds), .inl (0, 12, S.times), .inl (0, 12, S.pumps), .inl (0, 8, S.latest)]
def nW (S : NT) : xW := [.inr (.inl (1, [.ref 1, .int S.size, .int S.flow, .int S.alarms])), .inl (0, 7, S.noted)]
def oW (S : OT) : xW := [.inr (.inl (2, [.ref 1, .int S.length, .int S.place, .int S.behind, .int S.done, .int S.letter, .int S.number])), .inl (2, 60, S.text)]
def pW (S : PT) : xW := [.inr (.inl (3, [.ref 1, .ref 2, .ref 3, .ref 4, .ref 5, .ref 6, .ref 7, .ref 8, .int S.size, .int S.vrb])), .inl (0, 6, S.kinds), .inl (0, 6, S.shutoffs), .inl (0, 6, S.steeps), .inl (1, 6, S.inService), .inl (0, 6, S.speeds), .inl (0, 6, S.minutes), .inl (0, 6, S.since), .inl (0, 6, S.starts)]
def zW (S : ZT) : xW := [.inr (.inl (5, [.ref 1, .ref 2, .int S.size, .ref 3, .ref 4, .ref 5, .int S.programmes])), .inl (0, 8, S.demands), .inl (1, 8, S.isOpen), .inl (0, 8, S.pzones), .inl (0, 8, S.opening), .inl (0, 8, S.closing)]
def stW (S : ST) : xW := .inr (.inl (4, [.ref 1, .ref 2, .ref 11, .ref 17, .ref 19, .int S.time, .int S.pressure, .int S.level, .int S.leak, .int S.supply, .int S.allSupplied, .int S.dry, .int S.dryMinutes, .int S.trips, .int S.toStart, .int S.toStop, .int S.toSleep])) :: .inl (0, 19, S.settings) :: (sh 2 (pW S.P) ++ (sh 11 (zW S.Z) ++ (sh 17 (nW S.N) ++ sh 19 (eW S.E))))
def fpW (S : FT) : xW := .inr (.inl (6, [.ref 1, .ref 25, .ref 49, .int S.states, .ref 50])) :: (sh 1 (stW S.now) ++ (sh 25 (stW S.trial) ++ (.inr (.inr (4, S.perm)) :: (sh 50 (oW S.O) ++ (sh 52 (stW S.h0) ++ (sh 76 (stW S.h1) ++ (sh 100 (stW S.h2) ++ sh 124 (stW S.h3))))))))
set_option maxRecDepth 100000 in
theorem eW_F : (∀ S : ET, getF (eW S) 0 0 0 = some (.ref 1)) ∧
  (∀ S : ET, getF (eW S) 0 0 1 = some (.ref 2)) ∧
  (∀ S : ET, getF (eW S) 0 0 2 = some (.ref 3)) ∧
  (∀ S : ET, getF (eW S) 0 0 3 = some (.ref 4)) ∧
  (∀ S : ET, getF (eW S) 0 0 4 = some (.int S.all)) := by
  repeat' apply And.intro
  all_goals (intro S; rfl)
set_option maxRecDepth 100000 in
theorem eW_A : (∀ S : ET, getA (eW S) 1 = some (0, 12, S.kinds)) ∧
  (∀ S : ET, getA (eW S) 2 = some (0, 12, S.times)) ∧
  (∀ S : ET, getA (eW S) 3 = some (0, 12, S.pumps)) ∧
  (∀ S : ET, getA (eW S) 4 = some (0, 8, S.latest)) := by
  repeat' apply And.intro
  all_goals (intro S; rfl)
def eW_sa (S : ET) (id : Nat) (g : Nat → Int32) : Option ET := if id = 1 then some (S.sKinds g) else if id = 2 then some (S.sTimes g) else if id = 3 then some (S.sPumps g) else if id = 4 then some (S.sLatest g) else none
theorem eW_sar : sarOk eW eW_sa := by
  intro S id g S' t n f h hA
  unfold eW_sa at h
  by_cases h1 : id = 1
  · subst h1
    rw [if_pos rfl] at h
    cases h
    cases hA
    rfl
  rw [if_neg h1] at h
  by_cases h2 : id = 2
  · subst h2
    rw [if_pos rfl] at h
    cases h
    cases hA
    rfl
  rw [if_neg h2] at h
  by_cases h3 : id = 3
  · subst h3
    rw [if_pos rfl] at h
    cases h
    cases hA
    rfl
  rw [if_neg h3] at h
  by_cases h4 : id = 4
  · subst h4
    rw [if_pos rfl] at h
    cases h
    cases hA
    rfl
  rw [if_neg h4] at h
  cases h
set_option maxRecDepth 100000 in
theorem eW_S : (∀ (S : ET) (g : Nat → Int32), eW_sa S 1 g = some (S.sKinds g)) ∧
  (∀ (S : ET) (g : Nat → Int32), eW_sa S 2 g = some (S.sTimes g)) ∧
  (∀ (S : ET) (g : Nat → Int32), eW_sa S 3 g = some (S.sPumps g)) ∧
  (∀ (S : ET) (g : Nat → Int32), eW_sa S 4 g = some (S.sLatest g)) := by
  repeat' apply And.intro
  all_goals (intro S g; rfl)
def eW_p0_4 (S : ET) (id : Nat) (x : Int32) : Option ET := if id = 0 then some (S.sAll x) else none
theorem eW_p0_4_ok : putOk eW 0 4 eW_p0_4 := by
  intro S id x S' h
  unfold eW_p0_4 at h
  by_cases h0 : id = 0
  · subst h0
    rw [if_pos rfl] at h
    cases h
    exact ⟨_, rfl, Nat.le_of_ble_eq_true rfl, rfl⟩
  rw [if_neg h0] at h
  cases h
set_option maxRecDepth 100000 in
theorem eW_P : (∀ (S : ET) (x : Int32), eW_p0_4 S 0 x = some (S.sAll x)) := by
  repeat' apply And.intro
  all_goals (intro S x; rfl)
set_option maxRecDepth 100000 in
theorem nW_F : (∀ S : NT, getF (nW S) 1 0 0 = some (.ref 1)) ∧
  (∀ S : NT, getF (nW S) 1 0 1 = some (.int S.size)) ∧
  (∀ S : NT, getF (nW S) 1 0 2 = some (.int S.flow)) ∧
  (∀ S : NT, getF (nW S) 1 0 3 = some (.int S.alarms)) := by
  repeat' apply And.intro
  all_goals (intro S; rfl)
set_option maxRecDepth 100000 in
theorem nW_A : (∀ S : NT, getA (nW S) 1 = some (0, 7, S.noted)) := by
  repeat' apply And.intro
  all_goals (intro S; rfl)
def nW_sa (S : NT) (id : Nat) (g : Nat → Int32) : Option NT := if id = 1 then some (S.sNoted g) else none
theorem nW_sar : sarOk nW nW_sa := by
  intro S id g S' t n f h hA
  unfold nW_sa at h
  by_cases h1 : id = 1
  · subst h1
    rw [if_pos rfl] at h
    cases h
    cases hA
    rfl
  rw [if_neg h1] at h
  cases h
set_option maxRecDepth 100000 in
theorem nW_S : (∀ (S : NT) (g : Nat → Int32), nW_sa S 1 g = some (S.sNoted g)) := by
  repeat' apply And.intro
  all_goals (intro S g; rfl)
def nW_p1_1 (S : NT) (id : Nat) (x : Int32) : Option NT := if id = 0 then some (S.sSize x) else none
theorem nW_p1_1_ok : putOk nW 1 1 nW_p1_1 := by
  intro S id x S' h
  unfold nW_p1_1 at h
  by_cases h0 : id = 0
  · subst h0
    rw [if_pos rfl] at h
    cases h
    exact ⟨_, rfl, Nat.le_of_ble_eq_true rfl, rfl⟩
  rw [if_neg h0] at h
  cases h
def nW_p1_2 (S : NT) (id : Nat) (x : Int32) : Option NT := if id = 0 then some (S.sFlow x) else none
theorem nW_p1_2_ok : putOk nW 1 2 nW_p1_2 := by
  intro S id x S' h
  unfold nW_p1_2 at h
  by_cases h0 : id = 0
  · subst h0
    rw [if_pos rfl] at h
    cases h
    exact ⟨_, rfl, Nat.le_of_ble_eq_true rfl, rfl⟩
  rw [if_neg h0] at h
  cases h
def nW_p1_3 (S : NT) (id : Nat) (x : Int32) : Option NT := if id = 0 then some (S.sAlarms x) else none
theorem nW_p1_3_ok : putOk nW 1 3 nW_p1_3 := by
  intro S id x S' h
  unfold nW_p1_3 at h
  by_cases h0 : id = 0
  · subst h0
    rw [if_pos rfl] at h
    cases h
    exact ⟨_, rfl, Nat.le_of_ble_eq_true rfl, rfl⟩
  rw [if_neg h0] at h
  cases h
set_option maxRecDepth 100000 in
theorem nW_P : (∀ (S : NT) (x : Int32), nW_p1_1 S 0 x = some (S.sSize x)) ∧
  (∀ (S : NT) (x : Int32), nW_p1_2 S 0 x = some (S.sFlow x)) ∧
  (∀ (S : NT) (x : Int32), nW_p1_3 S 0 x = some (S.sAlarms x)) := by
  repeat' apply And.intro
  all_goals (intro S x; rfl)
set_option maxRecDepth 100000 in
theorem oW_F : (∀ S : OT, getF (oW S) 2 0 0 = some (.ref 1)) ∧
  (∀ S : OT, getF (oW S) 2 0 1 = some (.int S.length)) ∧
  (∀ S : OT, getF (oW S) 2 0 2 = some (.int S.place)) ∧
  (∀ S : OT, getF (oW S) 2 0 3 = some (.int S.behind)) ∧
  (∀ S : OT, getF (oW S) 2 0 4 = some (.int S.done)) ∧
  (∀ S : OT, getF (oW S) 2 0 5 = some (.int S.letter)) ∧
  (∀ S : OT, getF (oW S) 2 0 6 = some (.int S.number)) := by
  repeat' apply And.intro
  all_goals (intro S; rfl)
set_option maxRecDepth 100000 in
theorem oW_A : (∀ S : OT, getA (oW S) 1 = some (2, 60, S.text)) := by
  repeat' apply And.intro
  all_goals (intro S; rfl)
def oW_sa (S : OT) (id : Nat) (g : Nat → Int32) : Option OT := if id = 1 then some (S.sText g) else none
theorem oW_sar : sarOk oW oW_sa := by
  intro S id g S' t n f h hA
  unfold oW_sa at h
  by_cases h1 : id = 1
  · subst h1
    rw [if_pos rfl] at h
    cases h
    cases hA
    rfl
  rw [if_neg h1] at h
  cases h
set_option maxRecDepth 100000 in
theorem oW_S : (∀ (S : OT) (g : Nat → Int32), oW_sa S 1 g = some (S.sText g)) := by
  repeat' apply And.intro
  all_goals (intro S g; rfl)
def oW_p2_1 (S : OT) (id : Nat) (x : Int32) : Option OT := if id = 0 then some (S.sLength x) else none
theorem oW_p2_1_ok : putOk oW 2 1 oW_p2_1 := by
  intro S id x S' h
  unfold oW_p2_1 at h
  by_cases h0 : id = 0
  · subst h0
    rw [if_pos rfl] at h
    cases h
    exact ⟨_, rfl, Nat.le_of_ble_eq_true rfl, rfl⟩
  rw [if_neg h0] at h
  cases h
def oW_p2_2 (S : OT) (id : Nat) (x : Int32) : Option OT := if id = 0 then some (S.sPlace x) else none
theorem oW_p2_2_ok : putOk oW 2 2 oW_p2_2 := by
  intro S id x S' h
  unfold oW_p2_2 at h
  by_cases h0 : id = 0
  · subst h0
    rw [if_pos rfl] at h
    cases h
    exact ⟨_, rfl, Nat.le_of_ble_eq_true rfl, rfl⟩
  rw [if_neg h0] at h
  cases h
def oW_p2_3 (S : OT) (id : Nat) (x : Int32) : Option OT := if id = 0 then some (S.sBehind x) else none
theorem oW_p2_3_ok : putOk oW 2 3 oW_p2_3 := by
  intro S id x S' h
  unfold oW_p2_3 at h
  by_cases h0 : id = 0
  · subst h0
    rw [if_pos rfl] at h
    cases h
    exact ⟨_, rfl, Nat.le_of_ble_eq_true rfl, rfl⟩
  rw [if_neg h0] at h
  cases h
def oW_p2_4 (S : OT) (id : Nat) (x : Int32) : Option OT := if id = 0 then some (S.sDone x) else none
theorem oW_p2_4_ok : putOk oW 2 4 oW_p2_4 := by
  intro S id x S' h
  unfold oW_p2_4 at h
  by_cases h0 : id = 0
  · subst h0
    rw [if_pos rfl] at h
    cases h
    exact ⟨_, rfl, Nat.le_of_ble_eq_true rfl, rfl⟩
  rw [if_neg h0] at h
  cases h
def oW_p2_5 (S : OT) (id : Nat) (x : Int32) : Option OT := if id = 0 then some (S.sLetter x) else none
theorem oW_p2_5_ok : putOk oW 2 5 oW_p2_5 := by
  intro S id x S' h
  unfold oW_p2_5 at h
  by_cases h0 : id = 0
  · subst h0
    rw [if_pos rfl] at h
    cases h
    exact ⟨_, rfl, Nat.le_of_ble_eq_true rfl, rfl⟩
  rw [if_neg h0] at h
  cases h
def oW_p2_6 (S : OT) (id : Nat) (x : Int32) : Option OT := if id = 0 then some (S.sNumber x) else none
theorem oW_p2_6_ok : putOk oW 2 6 oW_p2_6 := by
  intro S id x S' h
  unfold oW_p2_6 at h
  by_cases h0 : id = 0
  · subst h0
    rw [if_pos rfl] at h
    cases h
    exact ⟨_, rfl, Nat.le_of_ble_eq_true rfl, rfl⟩
  rw [if_neg h0] at h
  cases h
set_option maxRecDepth 100000 in
theorem oW_P : (∀ (S : OT) (x : Int32), oW_p2_1 S 0 x = some (S.sLength x)) ∧
  (∀ (S : OT) (x : Int32), oW_p2_2 S 0 x = some (S.sPlace x)) ∧
  (∀ (S : OT) (x : Int32), oW_p2_3 S 0 x = some (S.sBehind x)) ∧
  (∀ (S : OT) (x : Int32), oW_p2_4 S 0 x = some (S.sDone x)) ∧
  (∀ (S : OT) (x : Int32), oW_p2_5 S 0 x = some (S.sLetter x)) ∧
  (∀ (S : OT) (x : Int32), oW_p2_6 S 0 x = some (S.sNumber x)) := by
  repeat' apply And.intro
  all_goals (intro S x; rfl)
set_option maxRecDepth 100000 in
theorem pW_F : (∀ S : PT, getF (pW S) 3 0 0 = some (.ref 1)) ∧
  (∀ S : PT, getF (pW S) 3 0 1 = some (.ref 2)) ∧
  (∀ S : PT, getF (pW S) 3 0 2 = some (.ref 3)) ∧
  (∀ S : PT, getF (pW S) 3 0 3 = some (.ref 4)) ∧
  (∀ S : PT, getF (pW S) 3 0 4 = some (.ref 5)) ∧
  (∀ S : PT, getF (pW S) 3 0 5 = some (.ref 6)) ∧
  (∀ S : PT, getF (pW S) 3 0 6 = some (.ref 7)) ∧
  (∀ S : PT, getF (pW S) 3 0 7 = some (.ref 8)) ∧
  (∀ S : PT, getF (pW S) 3 0 8 = some (.int S.size)) ∧
  (∀ S : PT, getF (pW S) 3 0 9 = some (.int S.vrb)) := by
  repeat' apply And.intro
  all_goals (intro S; rfl)
set_option maxRecDepth 100000 in
theorem pW_A : (∀ S : PT, getA (pW S) 1 = some (0, 6, S.kinds)) ∧
  (∀ S : PT, getA (pW S) 2 = some (0, 6, S.shutoffs)) ∧
  (∀ S : PT, getA (pW S) 3 = some (0, 6, S.steeps)) ∧
  (∀ S : PT, getA (pW S) 4 = some (1, 6, S.inService)) ∧
  (∀ S : PT, getA (pW S) 5 = some (0, 6, S.speeds)) ∧
  (∀ S : PT, getA (pW S) 6 = some (0, 6, S.minutes)) ∧
  (∀ S : PT, getA (pW S) 7 = some (0, 6, S.since)) ∧
  (∀ S : PT, getA (pW S) 8 = some (0, 6, S.starts)) := by
  repeat' apply And.intro
  all_goals (intro S; rfl)
def pW_sa (S : PT) (id : Nat) (g : Nat → Int32) : Option PT := if id = 1 then some (S.sKinds g) else if id = 2 then some (S.sShutoffs g) else if id = 3 then some (S.sSteeps g) else if id = 4 then some (S.sInService g) else if id = 5 then some (S.sSpeeds g) else if id = 6 then some (S.sMinutes g) else if id = 7 then some (S.sSince g) else if id = 8 then some (S.sStarts g) else none
theorem pW_sar : sarOk pW pW_sa := by
  intro S id g S' t n f h hA
  unfold pW_sa at h
  by_cases h1 : id = 1
  · subst h1
    rw [if_pos rfl] at h
    cases h
    cases hA
    rfl
  rw [if_neg h1] at h
  by_cases h2 : id = 2
  · subst h2
    rw [if_pos rfl] at h
    cases h
    cases hA
    rfl
  rw [if_neg h2] at h
  by_cases h3 : id = 3
  · subst h3
    rw [if_pos rfl] at h
    cases h
    cases hA
    rfl
  rw [if_neg h3] at h
  by_cases h4 : id = 4
  · subst h4
    rw [if_pos rfl] at h
    cases h
    cases hA
    rfl
  rw [if_neg h4] at h
  by_cases h5 : id = 5
  · subst h5
    rw [if_pos rfl] at h
    cases h
    cases hA
    rfl
  rw [if_neg h5] at h
  by_cases h6 : id = 6
  · subst h6
    rw [if_pos rfl] at h
    cases h
    cases hA
    rfl
  rw [if_neg h6] at h
  by_cases h7 : id = 7
  · subst h7
    rw [if_pos rfl] at h
    cases h
    cases hA
    rfl
  rw [if_neg h7] at h
  by_cases h8 : id = 8
  · subst h8
    rw [if_pos rfl] at h
    cases h
    cases hA
    rfl
  rw [if_neg h8] at h
  cases h
set_option maxRecDepth 100000 in
theorem pW_S : (∀ (S : PT) (g : Nat → Int32), pW_sa S 1 g = some (S.sKinds g)) ∧
  (∀ (S : PT) (g : Nat → Int32), pW_sa S 2 g = some (S.sShutoffs g)) ∧
  (∀ (S : PT) (g : Nat → Int32), pW_sa S 3 g = some (S.sSteeps g)) ∧
  (∀ (S : PT) (g : Nat → Int32), pW_sa S 4 g = some (S.sInService g)) ∧
  (∀ (S : PT) (g : Nat → Int32), pW_sa S 5 g = some (S.sSpeeds g)) ∧
  (∀ (S : PT) (g : Nat → Int32), pW_sa S 6 g = some (S.sMinutes g)) ∧
  (∀ (S : PT) (g : Nat → Int32), pW_sa S 7 g = some (S.sSince g)) ∧
  (∀ (S : PT) (g : Nat → Int32), pW_sa S 8 g = some (S.sStarts g)) := by
  repeat' apply And.intro
  all_goals (intro S g; rfl)
def pW_p3_8 (S : PT) (id : Nat) (x : Int32) : Option PT := if id = 0 then some (S.sSize x) else none
theorem pW_p3_8_ok : putOk pW 3 8 pW_p3_8 := by
  intro S id x S' h
  unfold pW_p3_8 at h
  by_cases h0 : id = 0
  · subst h0
    rw [if_pos rfl] at h
    cases h
    exact ⟨_, rfl, Nat.le_of_ble_eq_true rfl, rfl⟩
  rw [if_neg h0] at h
  cases h
def pW_p3_9 (S : PT) (id : Nat) (x : Int32) : Option PT := if id = 0 then some (S.sVrb x) else none
theorem pW_p3_9_ok : putOk pW 3 9 pW_p3_9 := by
  intro S id x S' h
  unfold pW_p3_9 at h
  by_cases h0 : id = 0
  · subst h0
    rw [if_pos rfl] at h
    cases h
    exact ⟨_, rfl, Nat.le_of_ble_eq_true rfl, rfl⟩
  rw [if_neg h0] at h
  cases h
set_option maxRecDepth 100000 in
theorem pW_P : (∀ (S : PT) (x : Int32), pW_p3_8 S 0 x = some (S.sSize x)) ∧
  (∀ (S : PT) (x : Int32), pW_p3_9 S 0 x = some (S.sVrb x)) := by
  repeat' apply And.intro
  all_goals (intro S x; rfl)
set_option maxRecDepth 100000 in
theorem zW_F : (∀ S : ZT, getF (zW S) 5 0 0 = some (.ref 1)) ∧
  (∀ S : ZT, getF (zW S) 5 0 1 = some (.ref 2)) ∧
  (∀ S : ZT, getF (zW S) 5 0 2 = some (.int S.size)) ∧
  (∀ S : ZT, getF (zW S) 5 0 3 = some (.ref 3)) ∧
  (∀ S : ZT, getF (zW S) 5 0 4 = some (.ref 4)) ∧
  (∀ S : ZT, getF (zW S) 5 0 5 = some (.ref 5)) ∧
  (∀ S : ZT, getF (zW S) 5 0 6 = some (.int S.programmes)) := by
  repeat' apply And.intro
  all_goals (intro S; rfl)
set_option maxRecDepth 100000 in
theorem zW_A : (∀ S : ZT, getA (zW S) 1 = some (0, 8, S.demands)) ∧
  (∀ S : ZT, getA (zW S) 2 = some (1, 8, S.isOpen)) ∧
  (∀ S : ZT, getA (zW S) 3 = some (0, 8, S.pzones)) ∧
  (∀ S : ZT, getA (zW S) 4 = some (0, 8, S.opening)) ∧
  (∀ S : ZT, getA (zW S) 5 = some (0, 8, S.closing)) := by
  repeat' apply And.intro
  all_goals (intro S; rfl)
def zW_sa (S : ZT) (id : Nat) (g : Nat → Int32) : Option ZT := if id = 1 then some (S.sDemands g) else if id = 2 then some (S.sIsOpen g) else if id = 3 then some (S.sPzones g) else if id = 4 then some (S.sOpening g) else if id = 5 then some (S.sClosing g) else none
theorem zW_sar : sarOk zW zW_sa := by
  intro S id g S' t n f h hA
  unfold zW_sa at h
  by_cases h1 : id = 1
  · subst h1
    rw [if_pos rfl] at h
    cases h
    cases hA
    rfl
  rw [if_neg h1] at h
  by_cases h2 : id = 2
  · subst h2
    rw [if_pos rfl] at h
    cases h
    cases hA
    rfl
  rw [if_neg h2] at h
  by_cases h3 : id = 3
  · subst h3
    rw [if_pos rfl] at h
    cases h
    cases hA
    rfl
  rw [if_neg h3] at h
  by_cases h4 : id = 4
  · subst h4
    rw [if_pos rfl] at h
    cases h
    cases hA
    rfl
  rw [if_neg h4] at h
  by_cases h5 : id = 5
  · subst h5
    rw [if_pos rfl] at h
    cases h
    cases hA
    rfl
  rw [if_neg h5] at h
  cases h
set_option maxRecDepth 100000 in
theorem zW_S : (∀ (S : ZT) (g : Nat → Int32), zW_sa S 1 g = some (S.sDemands g)) ∧
  (∀ (S : ZT) (g : Nat → Int32), zW_sa S 2 g = some (S.sIsOpen g)) ∧
  (∀ (S : ZT) (g : Nat → Int32), zW_sa S 3 g = some (S.sPzones g)) ∧
  (∀ (S : ZT) (g : Nat → Int32), zW_sa S 4 g = some (S.sOpening g)) ∧
  (∀ (S : ZT) (g : Nat → Int32), zW_sa S 5 g = some (S.sClosing g)) := by
  repeat' apply And.intro
  all_goals (intro S g; rfl)
def zW_p5_2 (S : ZT) (id : Nat) (x : Int32) : Option ZT := if id = 0 then some (S.sSize x) else none
theorem zW_p5_2_ok : putOk zW 5 2 zW_p5_2 := by
  intro S id x S' h
  unfold zW_p5_2 at h
  by_cases h0 : id = 0
  · subst h0
    rw [if_pos rfl] at h
    cases h
    exact ⟨_, rfl, Nat.le_of_ble_eq_true rfl, rfl⟩
  rw [if_neg h0] at h
  cases h
def zW_p5_6 (S : ZT) (id : Nat) (x : Int32) : Option ZT := if id = 0 then some (S.sProgrammes x) else none
theorem zW_p5_6_ok : putOk zW 5 6 zW_p5_6 := by
  intro S id x S' h
  unfold zW_p5_6 at h
  by_cases h0 : id = 0
  · subst h0
    rw [if_pos rfl] at h
    cases h
    exact ⟨_, rfl, Nat.le_of_ble_eq_true rfl, rfl⟩
  rw [if_neg h0] at h
  cases h
set_option maxRecDepth 100000 in
theorem zW_P : (∀ (S : ZT) (x : Int32), zW_p5_2 S 0 x = some (S.sSize x)) ∧
  (∀ (S : ZT) (x : Int32), zW_p5_6 S 0 x = some (S.sProgrammes x)) := by
  repeat' apply And.intro
  all_goals (intro S x; rfl)
set_option maxRecDepth 100000 in
theorem stW_F : (∀ S : ST, getF (stW S) 4 0 0 = some (.ref 1)) ∧
  (∀ S : ST, getF (stW S) 4 0 1 = some (.ref 2)) ∧
  (∀ S : ST, getF (stW S) 4 0 2 = some (.ref 11)) ∧
  (∀ S : ST, getF (stW S) 4 0 3 = some (.ref 17)) ∧
  (∀ S : ST, getF (stW S) 4 0 4 = some (.ref 19)) ∧
  (∀ S : ST, getF (stW S) 4 0 5 = some (.int S.time)) ∧
  (∀ S : ST, getF (stW S) 4 0 6 = some (.int S.pressure)) ∧
  (∀ S : ST, getF (stW S) 4 0 7 = some (.int S.level)) ∧
  (∀ S : ST, getF (stW S) 4 0 8 = some (.int S.leak)) ∧
  (∀ S : ST, getF (stW S) 4 0 9 = some (.int S.supply)) ∧
  (∀ S : ST, getF (stW S) 4 0 10 = some (.int S.allSupplied)) ∧
  (∀ S : ST, getF (stW S) 4 0 11 = some (.int S.dry)) ∧
  (∀ S : ST, getF (stW S) 4 0 12 = some (.int S.dryMinutes)) ∧
  (∀ S : ST, getF (stW S) 4 0 13 = some (.int S.trips)) ∧
  (∀ S : ST, getF (stW S) 4 0 14 = some (.int S.toStart)) ∧
  (∀ S : ST, getF (stW S) 4 0 15 = some (.int S.toStop)) ∧
  (∀ S : ST, getF (stW S) 4 0 16 = some (.int S.toSleep)) ∧
  (∀ S : ST, getF (stW S) 3 2 0 = some (.ref 3)) ∧
  (∀ S : ST, getF (stW S) 3 2 1 = some (.ref 4)) ∧
  (∀ S : ST, getF (stW S) 3 2 2 = some (.ref 5)) ∧
  (∀ S : ST, getF (stW S) 3 2 3 = some (.ref 6)) ∧
  (∀ S : ST, getF (stW S) 3 2 4 = some (.ref 7)) ∧
  (∀ S : ST, getF (stW S) 3 2 5 = some (.ref 8)) ∧
  (∀ S : ST, getF (stW S) 3 2 6 = some (.ref 9)) ∧
  (∀ S : ST, getF (stW S) 3 2 7 = some (.ref 10)) ∧
  (∀ S : ST, getF (stW S) 3 2 8 = some (.int S.P.size)) ∧
  (∀ S : ST, getF (stW S) 3 2 9 = some (.int S.P.vrb)) ∧
  (∀ S : ST, getF (stW S) 5 11 0 = some (.ref 12)) ∧
  (∀ S : ST, getF (stW S) 5 11 1 = some (.ref 13)) ∧
  (∀ S : ST, getF (stW S) 5 11 2 = some (.int S.Z.size)) ∧
  (∀ S : ST, getF (stW S) 5 11 3 = some (.ref 14)) ∧
  (∀ S : ST, getF (stW S) 5 11 4 = some (.ref 15)) ∧
  (∀ S : ST, getF (stW S) 5 11 5 = some (.ref 16)) ∧
  (∀ S : ST, getF (stW S) 5 11 6 = some (.int S.Z.programmes)) ∧
  (∀ S : ST, getF (stW S) 1 17 0 = some (.ref 18)) ∧
  (∀ S : ST, getF (stW S) 1 17 1 = some (.int S.N.size)) ∧
  (∀ S : ST, getF (stW S) 1 17 2 = some (.int S.N.flow)) ∧
  (∀ S : ST, getF (stW S) 1 17 3 = some (.int S.N.alarms)) ∧
  (∀ S : ST, getF (stW S) 0 19 0 = some (.ref 20)) ∧
  (∀ S : ST, getF (stW S) 0 19 1 = some (.ref 21)) ∧
  (∀ S : ST, getF (stW S) 0 19 2 = some (.ref 22)) ∧
  (∀ S : ST, getF (stW S) 0 19 3 = some (.ref 23)) ∧
  (∀ S : ST, getF (stW S) 0 19 4 = some (.int S.E.all)) := by
  repeat' apply And.intro
  all_goals (intro S; rfl)
set_option maxRecDepth 100000 in
theorem stW_A : (∀ S : ST, getA (stW S) 1 = some (0, 19, S.settings)) ∧
  (∀ S : ST, getA (stW S) 3 = some (0, 6, S.P.kinds)) ∧
  (∀ S : ST, getA (stW S) 4 = some (0, 6, S.P.shutoffs)) ∧
  (∀ S : ST, getA (stW S) 5 = some (0, 6, S.P.steeps)) ∧
  (∀ S : ST, getA (stW S) 6 = some (1, 6, S.P.inService)) ∧
  (∀ S : ST, getA (stW S) 7 = some (0, 6, S.P.speeds)) ∧
  (∀ S : ST, getA (stW S) 8 = some (0, 6, S.P.minutes)) ∧
  (∀ S : ST, getA (stW S) 9 = some (0, 6, S.P.since)) ∧
  (∀ S : ST, getA (stW S) 10 = some (0, 6, S.P.starts)) ∧
  (∀ S : ST, getA (stW S) 12 = some (0, 8, S.Z.demands)) ∧
  (∀ S : ST, getA (stW S) 13 = some (1, 8, S.Z.isOpen)) ∧
  (∀ S : ST, getA (stW S) 14 = some (0, 8, S.Z.pzones)) ∧
  (∀ S : ST, getA (stW S) 15 = some (0, 8, S.Z.opening)) ∧
  (∀ S : ST, getA (stW S) 16 = some (0, 8, S.Z.closing)) ∧
  (∀ S : ST, getA (stW S) 18 = some (0, 7, S.N.noted)) ∧
  (∀ S : ST, getA (stW S) 20 = some (0, 12, S.E.kinds)) ∧
  (∀ S : ST, getA (stW S) 21 = some (0, 12, S.E.times)) ∧
  (∀ S : ST, getA (stW S) 22 = some (0, 12, S.E.pumps)) ∧
  (∀ S : ST, getA (stW S) 23 = some (0, 8, S.E.latest)) := by
  repeat' apply And.intro
  all_goals (intro S; rfl)
def stW_sa (S : ST) (id : Nat) (g : Nat → Int32) : Option ST := if id = 1 then some (S.sSettings g) else if id = 3 then some (S.sP (S.P.sKinds g)) else if id = 4 then some (S.sP (S.P.sShutoffs g)) else if id = 5 then some (S.sP (S.P.sSteeps g)) else if id = 6 then some (S.sP (S.P.sInService g)) else if id = 7 then some (S.sP (S.P.sSpeeds g)) else if id = 8 then some (S.sP (S.P.sMinutes g)) else if id = 9 then some (S.sP (S.P.sSince g)) else if id = 10 then some (S.sP (S.P.sStarts g)) else if id = 12 then some (S.sZ (S.Z.sDemands g)) else if id = 13 then some (S.sZ (S.Z.sIsOpen g)) else if id = 14 then some (S.sZ (S.Z.sPzones g)) else if id = 15 then some (S.sZ (S.Z.sOpening g)) else if id = 16 then some (S.sZ (S.Z.sClosing g)) else if id = 18 then some (S.sN (S.N.sNoted g)) else if id = 20 then some (S.sE (S.E.sKinds g)) else if id = 21 then some (S.sE (S.E.sTimes g)) else if id = 22 then some (S.sE (S.E.sPumps g)) else if id = 23 then some (S.sE (S.E.sLatest g)) else none
theorem stW_sar : sarOk stW stW_sa := by
  intro S id g S' t n f h hA
  unfold stW_sa at h
  by_cases h1 : id = 1
  · subst h1
    rw [if_pos rfl] at h
    cases h
    cases hA
    rfl
  rw [if_neg h1] at h
  by_cases h3 : id = 3
  · subst h3
    rw [if_pos rfl] at h
    cases h
    cases hA
    rfl
  rw [if_neg h3] at h
  by_cases h4 : id = 4
  · subst h4
    rw [if_pos rfl] at h
    cases h
    cases hA
    rfl
  rw [if_neg h4] at h
  by_cases h5 : id = 5
  · subst h5
    rw [if_pos rfl] at h
    cases h
    cases hA
    rfl
  rw [if_neg h5] at h
  by_cases h6 : id = 6
  · subst h6
    rw [if_pos rfl] at h
    cases h
    cases hA
    rfl
  rw [if_neg h6] at h
  by_cases h7 : id = 7
  · subst h7
    rw [if_pos rfl] at h
    cases h
    cases hA
    rfl
  rw [if_neg h7] at h
  by_cases h8 : id = 8
  · subst h8
    rw [if_pos rfl] at h
    cases h
    cases hA
    rfl
  rw [if_neg h8] at h
  by_cases h9 : id = 9
  · subst h9
    rw [if_pos rfl] at h
    cases h
    cases hA
    rfl
  rw [if_neg h9] at h
  by_cases h10 : id = 10
  · subst h10
    rw [if_pos rfl] at h
    cases h
    cases hA
    rfl
  rw [if_neg h10] at h
  by_cases h12 : id = 12
  · subst h12
    rw [if_pos rfl] at h
    cases h
    cases hA
    rfl
  rw [if_neg h12] at h
  by_cases h13 : id = 13
  · subst h13
    rw [if_pos rfl] at h
    cases h
    cases hA
    rfl
  rw [if_neg h13] at h
  by_cases h14 : id = 14
  · subst h14
    rw [if_pos rfl] at h
    cases h
    cases hA
    rfl
  rw [if_neg h14] at h
  by_cases h15 : id = 15
  · subst h15
    rw [if_pos rfl] at h
    cases h
    cases hA
    rfl
  rw [if_neg h15] at h
  by_cases h16 : id = 16
  · subst h16
    rw [if_pos rfl] at h
    cases h
    cases hA
    rfl
  rw [if_neg h16] at h
  by_cases h18 : id = 18
  · subst h18
    rw [if_pos rfl] at h
    cases h
    cases hA
    rfl
  rw [if_neg h18] at h
  by_cases h20 : id = 20
  · subst h20
    rw [if_pos rfl] at h
    cases h
    cases hA
    rfl
  rw [if_neg h20] at h
  by_cases h21 : id = 21
  · subst h21
    rw [if_pos rfl] at h
    cases h
    cases hA
    rfl
  rw [if_neg h21] at h
  by_cases h22 : id = 22
  · subst h22
    rw [if_pos rfl] at h
    cases h
    cases hA
    rfl
  rw [if_neg h22] at h
  by_cases h23 : id = 23
  · subst h23
    rw [if_pos rfl] at h
    cases h
    cases hA
    rfl
  rw [if_neg h23] at h
  cases h
set_option maxRecDepth 100000 in
theorem stW_S : (∀ (S : ST) (g : Nat → Int32), stW_sa S 1 g = some (S.sSettings g)) ∧
  (∀ (S : ST) (g : Nat → Int32), stW_sa S 3 g = some (S.sP (S.P.sKinds g))) ∧
  (∀ (S : ST) (g : Nat → Int32), stW_sa S 4 g = some (S.sP (S.P.sShutoffs g))) ∧
  (∀ (S : ST) (g : Nat → Int32), stW_sa S 5 g = some (S.sP (S.P.sSteeps g))) ∧
  (∀ (S : ST) (g : Nat → Int32), stW_sa S 6 g = some (S.sP (S.P.sInService g))) ∧
  (∀ (S : ST) (g : Nat → Int32), stW_sa S 7 g = some (S.sP (S.P.sSpeeds g))) ∧
  (∀ (S : ST) (g : Nat → Int32), stW_sa S 8 g = some (S.sP (S.P.sMinutes g))) ∧
  (∀ (S : ST) (g : Nat → Int32), stW_sa S 9 g = some (S.sP (S.P.sSince g))) ∧
  (∀ (S : ST) (g : Nat → Int32), stW_sa S 10 g = some (S.sP (S.P.sStarts g))) ∧
  (∀ (S : ST) (g : Nat → Int32), stW_sa S 12 g = some (S.sZ (S.Z.sDemands g))) ∧
  (∀ (S : ST) (g : Nat → Int32), stW_sa S 13 g = some (S.sZ (S.Z.sIsOpen g))) ∧
  (∀ (S : ST) (g : Nat → Int32), stW_sa S 14 g = some (S.sZ (S.Z.sPzones g))) ∧
  (∀ (S : ST) (g : Nat → Int32), stW_sa S 15 g = some (S.sZ (S.Z.sOpening g))) ∧
  (∀ (S : ST) (g : Nat → Int32), stW_sa S 16 g = some (S.sZ (S.Z.sClosing g))) ∧
  (∀ (S : ST) (g : Nat → Int32), stW_sa S 18 g = some (S.sN (S.N.sNoted g))) ∧
  (∀ (S : ST) (g : Nat → Int32), stW_sa S 20 g = some (S.sE (S.E.sKinds g))) ∧
  (∀ (S : ST) (g : Nat → Int32), stW_sa S 21 g = some (S.sE (S.E.sTimes g))) ∧
  (∀ (S : ST) (g : Nat → Int32), stW_sa S 22 g = some (S.sE (S.E.sPumps g))) ∧
  (∀ (S : ST) (g : Nat → Int32), stW_sa S 23 g = some (S.sE (S.E.sLatest g))) := by
  repeat' apply And.intro
  all_goals (intro S g; rfl)
def stW_p0_4 (S : ST) (id : Nat) (x : Int32) : Option ST := if id = 19 then some (S.sE (S.E.sAll x)) else none
theorem stW_p0_4_ok : putOk stW 0 4 stW_p0_4 := by
  intro S id x S' h
  unfold stW_p0_4 at h
  by_cases h19 : id = 19
  · subst h19
    rw [if_pos rfl] at h
    cases h
    exact ⟨_, rfl, Nat.le_of_ble_eq_true rfl, rfl⟩
  rw [if_neg h19] at h
  cases h
def stW_p1_1 (S : ST) (id : Nat) (x : Int32) : Option ST := if id = 17 then some (S.sN (S.N.sSize x)) else none
theorem stW_p1_1_ok : putOk stW 1 1 stW_p1_1 := by
  intro S id x S' h
  unfold stW_p1_1 at h
  by_cases h17 : id = 17
  · subst h17
    rw [if_pos rfl] at h
    cases h
    exact ⟨_, rfl, Nat.le_of_ble_eq_true rfl, rfl⟩
  rw [if_neg h17] at h
  cases h
def stW_p1_2 (S : ST) (id : Nat) (x : Int32) : Option ST := if id = 17 then some (S.sN (S.N.sFlow x)) else none
theorem stW_p1_2_ok : putOk stW 1 2 stW_p1_2 := by
  intro S id x S' h
  unfold stW_p1_2 at h
  by_cases h17 : id = 17
  · subst h17
    rw [if_pos rfl] at h
    cases h
    exact ⟨_, rfl, Nat.le_of_ble_eq_true rfl, rfl⟩
  rw [if_neg h17] at h
  cases h
def stW_p1_3 (S : ST) (id : Nat) (x : Int32) : Option ST := if id = 17 then some (S.sN (S.N.sAlarms x)) else none
theorem stW_p1_3_ok : putOk stW 1 3 stW_p1_3 := by
  intro S id x S' h
  unfold stW_p1_3 at h
  by_cases h17 : id = 17
  · subst h17
    rw [if_pos rfl] at h
    cases h
    exact ⟨_, rfl, Nat.le_of_ble_eq_true rfl, rfl⟩
  rw [if_neg h17] at h
  cases h
def stW_p3_8 (S : ST) (id : Nat) (x : Int32) : Option ST := if id = 2 then some (S.sP (S.P.sSize x)) else none
theorem stW_p3_8_ok : putOk stW 3 8 stW_p3_8 := by
  intro S id x S' h
  unfold stW_p3_8 at h
  by_cases h2 : id = 2
  · subst h2
    rw [if_pos rfl] at h
    cases h
    exact ⟨_, rfl, Nat.le_of_ble_eq_true rfl, rfl⟩
  rw [if_neg h2] at h
  cases h
def stW_p3_9 (S : ST) (id : Nat) (x : Int32) : Option ST := if id = 2 then some (S.sP (S.P.sVrb x)) else none
theorem stW_p3_9_ok : putOk stW 3 9 stW_p3_9 := by
  intro S id x S' h
  unfold stW_p3_9 at h
  by_cases h2 : id = 2
  · subst h2
    rw [if_pos rfl] at h
    cases h
    exact ⟨_, rfl, Nat.le_of_ble_eq_true rfl, rfl⟩
  rw [if_neg h2] at h
  cases h
def stW_p4_5 (S : ST) (id : Nat) (x : Int32) : Option ST := if id = 0 then some (S.sTime x) else none
theorem stW_p4_5_ok : putOk stW 4 5 stW_p4_5 := by
  intro S id x S' h
  unfold stW_p4_5 at h
  by_cases h0 : id = 0
  · subst h0
    rw [if_pos rfl] at h
    cases h
    exact ⟨_, rfl, Nat.le_of_ble_eq_true rfl, rfl⟩
  rw [if_neg h0] at h
  cases h
def stW_p4_6 (S : ST) (id : Nat) (x : Int32) : Option ST := if id = 0 then some (S.sPressure x) else none
theorem stW_p4_6_ok : putOk stW 4 6 stW_p4_6 := by
  intro S id x S' h
  unfold stW_p4_6 at h
  by_cases h0 : id = 0
  · subst h0
    rw [if_pos rfl] at h
    cases h
    exact ⟨_, rfl, Nat.le_of_ble_eq_true rfl, rfl⟩
  rw [if_neg h0] at h
  cases h
def stW_p4_7 (S : ST) (id : Nat) (x : Int32) : Option ST := if id = 0 then some (S.sLevel x) else none
theorem stW_p4_7_ok : putOk stW 4 7 stW_p4_7 := by
  intro S id x S' h
  unfold stW_p4_7 at h
  by_cases h0 : id = 0
  · subst h0
    rw [if_pos rfl] at h
    cases h
    exact ⟨_, rfl, Nat.le_of_ble_eq_true rfl, rfl⟩
  rw [if_neg h0] at h
  cases h
def stW_p4_8 (S : ST) (id : Nat) (x : Int32) : Option ST := if id = 0 then some (S.sLeak x) else none
theorem stW_p4_8_ok : putOk stW 4 8 stW_p4_8 := by
  intro S id x S' h
  unfold stW_p4_8 at h
  by_cases h0 : id = 0
  · subst h0
    rw [if_pos rfl] at h
    cases h
    exact ⟨_, rfl, Nat.le_of_ble_eq_true rfl, rfl⟩
  rw [if_neg h0] at h
  cases h
def stW_p4_9 (S : ST) (id : Nat) (x : Int32) : Option ST := if id = 0 then some (S.sSupply x) else none
theorem stW_p4_9_ok : putOk stW 4 9 stW_p4_9 := by
  intro S id x S' h
  unfold stW_p4_9 at h
  by_cases h0 : id = 0
  · subst h0
    rw [if_pos rfl] at h
    cases h
    exact ⟨_, rfl, Nat.le_of_ble_eq_true rfl, rfl⟩
  rw [if_neg h0] at h
  cases h
def stW_p4_10 (S : ST) (id : Nat) (x : Int32) : Option ST := if id = 0 then some (S.sAllSupplied x) else none
theorem stW_p4_10_ok : putOk stW 4 10 stW_p4_10 := by
  intro S id x S' h
  unfold stW_p4_10 at h
  by_cases h0 : id = 0
  · subst h0
    rw [if_pos rfl] at h
    cases h
    exact ⟨_, rfl, Nat.le_of_ble_eq_true rfl, rfl⟩
  rw [if_neg h0] at h
  cases h
def stW_p4_11 (S : ST) (id : Nat) (x : Int32) : Option ST := if id = 0 then some (S.sDry x) else none
theorem stW_p4_11_ok : putOk stW 4 11 stW_p4_11 := by
  intro S id x S' h
  unfold stW_p4_11 at h
  by_cases h0 : id = 0
  · subst h0
    rw [if_pos rfl] at h
    cases h
    exact ⟨_, rfl, Nat.le_of_ble_eq_true rfl, rfl⟩
  rw [if_neg h0] at h
  cases h
def stW_p4_12 (S : ST) (id : Nat) (x : Int32) : Option ST := if id = 0 then some (S.sDryMinutes x) else none
theorem stW_p4_12_ok : putOk stW 4 12 stW_p4_12 := by
  intro S id x S' h
  unfold stW_p4_12 at h
  by_cases h0 : id = 0
  · subst h0
    rw [if_pos rfl] at h
    cases h
    exact ⟨_, rfl, Nat.le_of_ble_eq_true rfl, rfl⟩
  rw [if_neg h0] at h
  cases h
def stW_p4_13 (S : ST) (id : Nat) (x : Int32) : Option ST := if id = 0 then some (S.sTrips x) else none
theorem stW_p4_13_ok : putOk stW 4 13 stW_p4_13 := by
  intro S id x S' h
  unfold stW_p4_13 at h
  by_cases h0 : id = 0
  · subst h0
    rw [if_pos rfl] at h
    cases h
    exact ⟨_, rfl, Nat.le_of_ble_eq_true rfl, rfl⟩
  rw [if_neg h0] at h
  cases h
def stW_p4_14 (S : ST) (id : Nat) (x : Int32) : Option ST := if id = 0 then some (S.sToStart x) else none
theorem stW_p4_14_ok : putOk stW 4 14 stW_p4_14 := by
  intro S id x S' h
  unfold stW_p4_14 at h
  by_cases h0 : id = 0
  · subst h0
    rw [if_pos rfl] at h
    cases h
    exact ⟨_, rfl, Nat.le_of_ble_eq_true rfl, rfl⟩
  rw [if_neg h0] at h
  cases h
def stW_p4_15 (S : ST) (id : Nat) (x : Int32) : Option ST := if id = 0 then some (S.sToStop x) else none
theorem stW_p4_15_ok : putOk stW 4 15 stW_p4_15 := by
  intro S id x S' h
  unfold stW_p4_15 at h
  by_cases h0 : id = 0
  · subst h0
    rw [if_pos rfl] at h
    cases h
    exact ⟨_, rfl, Nat.le_of_ble_eq_true rfl, rfl⟩
  rw [if_neg h0] at h
  cases h
def stW_p4_16 (S : ST) (id : Nat) (x : Int32) : Option ST := if id = 0 then some (S.sToSleep x) else none
theorem stW_p4_16_ok : putOk stW 4 16 stW_p4_16 := by
  intro S id x S' h
  unfold stW_p4_16 at h
  by_cases h0 : id = 0
  · subst h0
    rw [if_pos rfl] at h
    cases h
    exact ⟨_, rfl, Nat.le_of_ble_eq_true rfl, rfl⟩
  rw [if_neg h0] at h
  cases h
def stW_p5_2 (S : ST) (id : Nat) (x : Int32) : Option ST := if id = 11 then some (S.sZ (S.Z.sSize x)) else none
theorem stW_p5_2_ok : putOk stW 5 2 stW_p5_2 := by
  intro S id x S' h
  unfold stW_p5_2 at h
  by_cases h11 : id = 11
  · subst h11
    rw [if_pos rfl] at h
    cases h
    exact ⟨_, rfl, Nat.le_of_ble_eq_true rfl, rfl⟩
  rw [if_neg h11] at h
  cases h
def stW_p5_6 (S : ST) (id : Nat) (x : Int32) : Option ST := if id = 11 then some (S.sZ (S.Z.sProgrammes x)) else none
theorem stW_p5_6_ok : putOk stW 5 6 stW_p5_6 := by
  intro S id x S' h
  unfold stW_p5_6 at h
  by_cases h11 : id = 11
  · subst h11
    rw [if_pos rfl] at h
    cases h
    exact ⟨_, rfl, Nat.le_of_ble_eq_true rfl, rfl⟩
  rw [if_neg h11] at h
  cases h
set_option maxRecDepth 100000 in
theorem stW_P : (∀ (S : ST) (x : Int32), stW_p0_4 S 19 x = some (S.sE (S.E.sAll x))) ∧
  (∀ (S : ST) (x : Int32), stW_p1_1 S 17 x = some (S.sN (S.N.sSize x))) ∧
  (∀ (S : ST) (x : Int32), stW_p1_2 S 17 x = some (S.sN (S.N.sFlow x))) ∧
  (∀ (S : ST) (x : Int32), stW_p1_3 S 17 x = some (S.sN (S.N.sAlarms x))) ∧
  (∀ (S : ST) (x : Int32), stW_p3_8 S 2 x = some (S.sP (S.P.sSize x))) ∧
  (∀ (S : ST) (x : Int32), stW_p3_9 S 2 x = some (S.sP (S.P.sVrb x))) ∧
  (∀ (S : ST) (x : Int32), stW_p4_5 S 0 x = some (S.sTime x)) ∧
  (∀ (S : ST) (x : Int32), stW_p4_6 S 0 x = some (S.sPressure x)) ∧
  (∀ (S : ST) (x : Int32), stW_p4_7 S 0 x = some (S.sLevel x)) ∧
  (∀ (S : ST) (x : Int32), stW_p4_8 S 0 x = some (S.sLeak x)) ∧
  (∀ (S : ST) (x : Int32), stW_p4_9 S 0 x = some (S.sSupply x)) ∧
  (∀ (S : ST) (x : Int32), stW_p4_10 S 0 x = some (S.sAllSupplied x)) ∧
  (∀ (S : ST) (x : Int32), stW_p4_11 S 0 x = some (S.sDry x)) ∧
  (∀ (S : ST) (x : Int32), stW_p4_12 S 0 x = some (S.sDryMinutes x)) ∧
  (∀ (S : ST) (x : Int32), stW_p4_13 S 0 x = some (S.sTrips x)) ∧
  (∀ (S : ST) (x : Int32), stW_p4_14 S 0 x = some (S.sToStart x)) ∧
  (∀ (S : ST) (x : Int32), stW_p4_15 S 0 x = some (S.sToStop x)) ∧
  (∀ (S : ST) (x : Int32), stW_p4_16 S 0 x = some (S.sToSleep x)) ∧
  (∀ (S : ST) (x : Int32), stW_p5_2 S 11 x = some (S.sZ (S.Z.sSize x))) ∧
  (∀ (S : ST) (x : Int32), stW_p5_6 S 11 x = some (S.sZ (S.Z.sProgrammes x))) := by
  repeat' apply And.intro
  all_goals (intro S x; rfl)
set_option maxRecDepth 100000 in
theorem fpW_F : (∀ S : FT, getF (fpW S) 6 0 0 = some (.ref 1)) ∧
  (∀ S : FT, getF (fpW S) 6 0 1 = some (.ref 25)) ∧
  (∀ S : FT, getF (fpW S) 6 0 2 = some (.ref 49)) ∧
  (∀ S : FT, getF (fpW S) 6 0 3 = some (.int S.states)) ∧
  (∀ S : FT, getF (fpW S) 6 0 4 = some (.ref 50)) ∧
  (∀ S : FT, getF (fpW S) 4 1 0 = some (.ref 2)) ∧
  (∀ S : FT, getF (fpW S) 4 1 1 = some (.ref 3)) ∧
  (∀ S : FT, getF (fpW S) 4 1 2 = some (.ref 12)) ∧
  (∀ S : FT, getF (fpW S) 4 1 3 = some (.ref 18)) ∧
  (∀ S : FT, getF (fpW S) 4 1 4 = some (.ref 20)) ∧
  (∀ S : FT, getF (fpW S) 4 1 5 = some (.int S.now.time)) ∧
  (∀ S : FT, getF (fpW S) 4 1 6 = some (.int S.now.pressure)) ∧
  (∀ S : FT, getF (fpW S) 4 1 7 = some (.int S.now.level)) ∧
  (∀ S : FT, getF (fpW S) 4 1 8 = some (.int S.now.leak)) ∧
  (∀ S : FT, getF (fpW S) 4 1 9 = some (.int S.now.supply)) ∧
  (∀ S : FT, getF (fpW S) 4 1 10 = some (.int S.now.allSupplied)) ∧
  (∀ S : FT, getF (fpW S) 4 1 11 = some (.int S.now.dry)) ∧
  (∀ S : FT, getF (fpW S) 4 1 12 = some (.int S.now.dryMinutes)) ∧
  (∀ S : FT, getF (fpW S) 4 1 13 = some (.int S.now.trips)) ∧
  (∀ S : FT, getF (fpW S) 4 1 14 = some (.int S.now.toStart)) ∧
  (∀ S : FT, getF (fpW S) 4 1 15 = some (.int S.now.toStop)) ∧
  (∀ S : FT, getF (fpW S) 4 1 16 = some (.int S.now.toSleep)) ∧
  (∀ S : FT, getF (fpW S) 3 3 0 = some (.ref 4)) ∧
  (∀ S : FT, getF (fpW S) 3 3 1 = some (.ref 5)) ∧
  (∀ S : FT, getF (fpW S) 3 3 2 = some (.ref 6)) ∧
  (∀ S : FT, getF (fpW S) 3 3 3 = some (.ref 7)) ∧
  (∀ S : FT, getF (fpW S) 3 3 4 = some (.ref 8)) ∧
  (∀ S : FT, getF (fpW S) 3 3 5 = some (.ref 9)) ∧
  (∀ S : FT, getF (fpW S) 3 3 6 = some (.ref 10)) ∧
  (∀ S : FT, getF (fpW S) 3 3 7 = some (.ref 11)) ∧
  (∀ S : FT, getF (fpW S) 3 3 8 = some (.int S.now.P.size)) ∧
  (∀ S : FT, getF (fpW S) 3 3 9 = some (.int S.now.P.vrb)) ∧
  (∀ S : FT, getF (fpW S) 5 12 0 = some (.ref 13)) ∧
  (∀ S : FT, getF (fpW S) 5 12 1 = some (.ref 14)) ∧
  (∀ S : FT, getF (fpW S) 5 12 2 = some (.int S.now.Z.size)) ∧
  (∀ S : FT, getF (fpW S) 5 12 3 = some (.ref 15)) ∧
  (∀ S : FT, getF (fpW S) 5 12 4 = some (.ref 16)) ∧
  (∀ S : FT, getF (fpW S) 5 12 5 = some (.ref 17)) ∧
  (∀ S : FT, getF (fpW S) 5 12 6 = some (.int S.now.Z.programmes)) ∧
  (∀ S : FT, getF (fpW S) 1 18 0 = some (.ref 19)) ∧
  (∀ S : FT, getF (fpW S) 1 18 1 = some (.int S.now.N.size)) ∧
  (∀ S : FT, getF (fpW S) 1 18 2 = some (.int S.now.N.flow)) ∧
  (∀ S : FT, getF (fpW S) 1 18 3 = some (.int S.now.N.alarms)) ∧
  (∀ S : FT, getF (fpW S) 0 20 0 = some (.ref 21)) ∧
  (∀ S : FT, getF (fpW S) 0 20 1 = some (.ref 22)) ∧
  (∀ S : FT, getF (fpW S) 0 20 2 = some (.ref 23)) ∧
  (∀ S : FT, getF (fpW S) 0 20 3 = some (.ref 24)) ∧
  (∀ S : FT, getF (fpW S) 0 20 4 = some (.int S.now.E.all)) ∧
  (∀ S : FT, getF (fpW S) 4 25 0 = some (.ref 26)) ∧
  (∀ S : FT, getF (fpW S) 4 25 1 = some (.ref 27)) ∧
  (∀ S : FT, getF (fpW S) 4 25 2 = some (.ref 36)) ∧
  (∀ S : FT, getF (fpW S) 4 25 3 = some (.ref 42)) ∧
  (∀ S : FT, getF (fpW S) 4 25 4 = some (.ref 44)) ∧
  (∀ S : FT, getF (fpW S) 4 25 5 = some (.int S.trial.time)) ∧
  (∀ S : FT, getF (fpW S) 4 25 6 = some (.int S.trial.pressure)) ∧
  (∀ S : FT, getF (fpW S) 4 25 7 = some (.int S.trial.level)) ∧
  (∀ S : FT, getF (fpW S) 4 25 8 = some (.int S.trial.leak)) ∧
  (∀ S : FT, getF (fpW S) 4 25 9 = some (.int S.trial.supply)) ∧
  (∀ S : FT, getF (fpW S) 4 25 10 = some (.int S.trial.allSupplied)) ∧
  (∀ S : FT, getF (fpW S) 4 25 11 = some (.int S.trial.dry)) ∧
  (∀ S : FT, getF (fpW S) 4 25 12 = some (.int S.trial.dryMinutes)) ∧
  (∀ S : FT, getF (fpW S) 4 25 13 = some (.int S.trial.trips)) ∧
  (∀ S : FT, getF (fpW S) 4 25 14 = some (.int S.trial.toStart)) ∧
  (∀ S : FT, getF (fpW S) 4 25 15 = some (.int S.trial.toStop)) ∧
  (∀ S : FT, getF (fpW S) 4 25 16 = some (.int S.trial.toSleep)) ∧
  (∀ S : FT, getF (fpW S) 3 27 0 = some (.ref 28)) ∧
  (∀ S : FT, getF (fpW S) 3 27 1 = some (.ref 29)) ∧
  (∀ S : FT, getF (fpW S) 3 27 2 = some (.ref 30)) ∧
  (∀ S : FT, getF (fpW S) 3 27 3 = some (.ref 31)) ∧
  (∀ S : FT, getF (fpW S) 3 27 4 = some (.ref 32)) ∧
  (∀ S : FT, getF (fpW S) 3 27 5 = some (.ref 33)) ∧
  (∀ S : FT, getF (fpW S) 3 27 6 = some (.ref 34)) ∧
  (∀ S : FT, getF (fpW S) 3 27 7 = some (.ref 35)) ∧
  (∀ S : FT, getF (fpW S) 3 27 8 = some (.int S.trial.P.size)) ∧
  (∀ S : FT, getF (fpW S) 3 27 9 = some (.int S.trial.P.vrb)) ∧
  (∀ S : FT, getF (fpW S) 5 36 0 = some (.ref 37)) ∧
  (∀ S : FT, getF (fpW S) 5 36 1 = some (.ref 38)) ∧
  (∀ S : FT, getF (fpW S) 5 36 2 = some (.int S.trial.Z.size)) ∧
  (∀ S : FT, getF (fpW S) 5 36 3 = some (.ref 39)) ∧
  (∀ S : FT, getF (fpW S) 5 36 4 = some (.ref 40)) ∧
  (∀ S : FT, getF (fpW S) 5 36 5 = some (.ref 41)) ∧
  (∀ S : FT, getF (fpW S) 5 36 6 = some (.int S.trial.Z.programmes)) ∧
  (∀ S : FT, getF (fpW S) 1 42 0 = some (.ref 43)) ∧
  (∀ S : FT, getF (fpW S) 1 42 1 = some (.int S.trial.N.size)) ∧
  (∀ S : FT, getF (fpW S) 1 42 2 = some (.int S.trial.N.flow)) ∧
  (∀ S : FT, getF (fpW S) 1 42 3 = some (.int S.trial.N.alarms)) ∧
  (∀ S : FT, getF (fpW S) 0 44 0 = some (.ref 45)) ∧
  (∀ S : FT, getF (fpW S) 0 44 1 = some (.ref 46)) ∧
  (∀ S : FT, getF (fpW S) 0 44 2 = some (.ref 47)) ∧
  (∀ S : FT, getF (fpW S) 0 44 3 = some (.ref 48)) ∧
  (∀ S : FT, getF (fpW S) 0 44 4 = some (.int S.trial.E.all)) ∧
  (∀ S : FT, getF (fpW S) 2 50 0 = some (.ref 51)) ∧
  (∀ S : FT, getF (fpW S) 2 50 1 = some (.int S.O.length)) ∧
  (∀ S : FT, getF (fpW S) 2 50 2 = some (.int S.O.place)) ∧
  (∀ S : FT, getF (fpW S) 2 50 3 = some (.int S.O.behind)) ∧
  (∀ S : FT, getF (fpW S) 2 50 4 = some (.int S.O.done)) ∧
  (∀ S : FT, getF (fpW S) 2 50 5 = some (.int S.O.letter)) ∧
  (∀ S : FT, getF (fpW S) 2 50 6 = some (.int S.O.number)) := by
  repeat' apply And.intro
  all_goals (intro S; rfl)
set_option maxRecDepth 100000 in
theorem fpW_A : (∀ S : FT, getA (fpW S) 2 = some (0, 19, S.now.settings)) ∧
  (∀ S : FT, getA (fpW S) 4 = some (0, 6, S.now.P.kinds)) ∧
  (∀ S : FT, getA (fpW S) 5 = some (0, 6, S.now.P.shutoffs)) ∧
  (∀ S : FT, getA (fpW S) 6 = some (0, 6, S.now.P.steeps)) ∧
  (∀ S : FT, getA (fpW S) 7 = some (1, 6, S.now.P.inService)) ∧
  (∀ S : FT, getA (fpW S) 8 = some (0, 6, S.now.P.speeds)) ∧
  (∀ S : FT, getA (fpW S) 9 = some (0, 6, S.now.P.minutes)) ∧
  (∀ S : FT, getA (fpW S) 10 = some (0, 6, S.now.P.since)) ∧
  (∀ S : FT, getA (fpW S) 11 = some (0, 6, S.now.P.starts)) ∧
  (∀ S : FT, getA (fpW S) 13 = some (0, 8, S.now.Z.demands)) ∧
  (∀ S : FT, getA (fpW S) 14 = some (1, 8, S.now.Z.isOpen)) ∧
  (∀ S : FT, getA (fpW S) 15 = some (0, 8, S.now.Z.pzones)) ∧
  (∀ S : FT, getA (fpW S) 16 = some (0, 8, S.now.Z.opening)) ∧
  (∀ S : FT, getA (fpW S) 17 = some (0, 8, S.now.Z.closing)) ∧
  (∀ S : FT, getA (fpW S) 19 = some (0, 7, S.now.N.noted)) ∧
  (∀ S : FT, getA (fpW S) 21 = some (0, 12, S.now.E.kinds)) ∧
  (∀ S : FT, getA (fpW S) 22 = some (0, 12, S.now.E.times)) ∧
  (∀ S : FT, getA (fpW S) 23 = some (0, 12, S.now.E.pumps)) ∧
  (∀ S : FT, getA (fpW S) 24 = some (0, 8, S.now.E.latest)) ∧
  (∀ S : FT, getA (fpW S) 26 = some (0, 19, S.trial.settings)) ∧
  (∀ S : FT, getA (fpW S) 28 = some (0, 6, S.trial.P.kinds)) ∧
  (∀ S : FT, getA (fpW S) 29 = some (0, 6, S.trial.P.shutoffs)) ∧
  (∀ S : FT, getA (fpW S) 30 = some (0, 6, S.trial.P.steeps)) ∧
  (∀ S : FT, getA (fpW S) 31 = some (1, 6, S.trial.P.inService)) ∧
  (∀ S : FT, getA (fpW S) 32 = some (0, 6, S.trial.P.speeds)) ∧
  (∀ S : FT, getA (fpW S) 33 = some (0, 6, S.trial.P.minutes)) ∧
  (∀ S : FT, getA (fpW S) 34 = some (0, 6, S.trial.P.since)) ∧
  (∀ S : FT, getA (fpW S) 35 = some (0, 6, S.trial.P.starts)) ∧
  (∀ S : FT, getA (fpW S) 37 = some (0, 8, S.trial.Z.demands)) ∧
  (∀ S : FT, getA (fpW S) 38 = some (1, 8, S.trial.Z.isOpen)) ∧
  (∀ S : FT, getA (fpW S) 39 = some (0, 8, S.trial.Z.pzones)) ∧
  (∀ S : FT, getA (fpW S) 40 = some (0, 8, S.trial.Z.opening)) ∧
  (∀ S : FT, getA (fpW S) 41 = some (0, 8, S.trial.Z.closing)) ∧
  (∀ S : FT, getA (fpW S) 43 = some (0, 7, S.trial.N.noted)) ∧
  (∀ S : FT, getA (fpW S) 45 = some (0, 12, S.trial.E.kinds)) ∧
  (∀ S : FT, getA (fpW S) 46 = some (0, 12, S.trial.E.times)) ∧
  (∀ S : FT, getA (fpW S) 47 = some (0, 12, S.trial.E.pumps)) ∧
  (∀ S : FT, getA (fpW S) 48 = some (0, 8, S.trial.E.latest)) ∧
  (∀ S : FT, getA (fpW S) 51 = some (2, 60, S.O.text)) := by
  repeat' apply And.intro
  all_goals (intro S; rfl)
def fpW_sa (S : FT) (id : Nat) (g : Nat → Int32) : Option FT := if id = 2 then some (S.sNow (S.now.sSettings g)) else if id = 4 then some (S.sNow (S.now.sP (S.now.P.sKinds g))) else if id = 5 then some (S.sNow (S.now.sP (S.now.P.sShutoffs g))) else if id = 6 then some (S.sNow (S.now.sP (S.now.P.sSteeps g))) else if id = 7 then some (S.sNow (S.now.sP (S.now.P.sInService g))) else if id = 8 then some (S.sNow (S.now.sP (S.now.P.sSpeeds g))) else if id = 9 then some (S.sNow (S.now.sP (S.now.P.sMinutes g))) else if id = 10 then some (S.sNow (S.now.sP (S.now.P.sSince g))) else if id = 11 then some (S.sNow (S.now.sP (S.now.P.sStarts g))) else if id = 13 then some (S.sNow (S.now.sZ (S.now.Z.sDemands g))) else if id = 14 then some (S.sNow (S.now.sZ (S.now.Z.sIsOpen g))) else if id = 15 then some (S.sNow (S.now.sZ (S.now.Z.sPzones g))) else if id = 16 then some (S.sNow (S.now.sZ (S.now.Z.sOpening g))) else if id = 17 then some (S.sNow (S.now.sZ (S.now.Z.sClosing g))) else if id = 19 then some (S.sNow (S.now.sN (S.now.N.sNoted g))) else if id = 21 then some (S.sNow (S.now.sE (S.now.E.sKinds g))) else if id = 22 then some (S.sNow (S.now.sE (S.now.E.sTimes g))) else if id = 23 then some (S.sNow (S.now.sE (S.now.E.sPumps g))) else if id = 24 then some (S.sNow (S.now.sE (S.now.E.sLatest g))) else if id = 26 then some (S.sTrial (S.trial.sSettings g)) else if id = 28 then some (S.sTrial (S.trial.sP (S.trial.P.sKinds g))) else if id = 29 then some (S.sTrial (S.trial.sP (S.trial.P.sShutoffs g))) else if id = 30 then some (S.sTrial (S.trial.sP (S.trial.P.sSteeps g))) else if id = 31 then some (S.sTrial (S.trial.sP (S.trial.P.sInService g))) else if id = 32 then some (S.sTrial (S.trial.sP (S.trial.P.sSpeeds g))) else if id = 33 then some (S.sTrial (S.trial.sP (S.trial.P.sMinutes g))) else if id = 34 then some (S.sTrial (S.trial.sP (S.trial.P.sSince g))) else if id = 35 then some (S.sTrial (S.trial.sP (S.trial.P.sStarts g))) else if id = 37 then some (S.sTrial (S.trial.sZ (S.trial.Z.sDemands g))) else if id = 38 then some (S.sTrial (S.trial.sZ (S.trial.Z.sIsOpen g))) else if id = 39 then some (S.sTrial (S.trial.sZ (S.trial.Z.sPzones g))) else if id = 40 then some (S.sTrial (S.trial.sZ (S.trial.Z.sOpening g))) else if id = 41 then some (S.sTrial (S.trial.sZ (S.trial.Z.sClosing g))) else if id = 43 then some (S.sTrial (S.trial.sN (S.trial.N.sNoted g))) else if id = 45 then some (S.sTrial (S.trial.sE (S.trial.E.sKinds g))) else if id = 46 then some (S.sTrial (S.trial.sE (S.trial.E.sTimes g))) else if id = 47 then some (S.sTrial (S.trial.sE (S.trial.E.sPumps g))) else if id = 48 then some (S.sTrial (S.trial.sE (S.trial.E.sLatest g))) else if id = 51 then some (S.sO (S.O.sText g)) else none
theorem fpW_sar : sarOk fpW fpW_sa := by
  intro S id g S' t n f h hA
  unfold fpW_sa at h
  by_cases h2 : id = 2
  · subst h2
    rw [if_pos rfl] at h
    cases h
    cases hA
    rfl
  rw [if_neg h2] at h
  by_cases h4 : id = 4
  · subst h4
    rw [if_pos rfl] at h
    cases h
    cases hA
    rfl
  rw [if_neg h4] at h
  by_cases h5 : id = 5
  · subst h5
    rw [if_pos rfl] at h
    cases h
    cases hA
    rfl
  rw [if_neg h5] at h
  by_cases h6 : id = 6
  · subst h6
    rw [if_pos rfl] at h
    cases h
    cases hA
    rfl
  rw [if_neg h6] at h
  by_cases h7 : id = 7
  · subst h7
    rw [if_pos rfl] at h
    cases h
    cases hA
    rfl
  rw [if_neg h7] at h
  by_cases h8 : id = 8
  · subst h8
    rw [if_pos rfl] at h
    cases h
    cases hA
    rfl
  rw [if_neg h8] at h
  by_cases h9 : id = 9
  · subst h9
    rw [if_pos rfl] at h
    cases h
    cases hA
    rfl
  rw [if_neg h9] at h
  by_cases h10 : id = 10
  · subst h10
    rw [if_pos rfl] at h
    cases h
    cases hA
    rfl
  rw [if_neg h10] at h
  by_cases h11 : id = 11
  · subst h11
    rw [if_pos rfl] at h
    cases h
    cases hA
    rfl
  rw [if_neg h11] at h
  by_cases h13 : id = 13
  · subst h13
    rw [if_pos rfl] at h
    cases h
    cases hA
    rfl
  rw [if_neg h13] at h
  by_cases h14 : id = 14
  · subst h14
    rw [if_pos rfl] at h
    cases h
    cases hA
    rfl
  rw [if_neg h14] at h
  by_cases h15 : id = 15
  · subst h15
    rw [if_pos rfl] at h
    cases h
    cases hA
    rfl
  rw [if_neg h15] at h
  by_cases h16 : id = 16
  · subst h16
    rw [if_pos rfl] at h
    cases h
    cases hA
    rfl
  rw [if_neg h16] at h
  by_cases h17 : id = 17
  · subst h17
    rw [if_pos rfl] at h
    cases h
    cases hA
    rfl
  rw [if_neg h17] at h
  by_cases h19 : id = 19
  · subst h19
    rw [if_pos rfl] at h
    cases h
    cases hA
    rfl
  rw [if_neg h19] at h
  by_cases h21 : id = 21
  · subst h21
    rw [if_pos rfl] at h
    cases h
    cases hA
    rfl
  rw [if_neg h21] at h
  by_cases h22 : id = 22
  · subst h22
    rw [if_pos rfl] at h
    cases h
    cases hA
    rfl
  rw [if_neg h22] at h
  by_cases h23 : id = 23
  · subst h23
    rw [if_pos rfl] at h
    cases h
    cases hA
    rfl
  rw [if_neg h23] at h
  by_cases h24 : id = 24
  · subst h24
    rw [if_pos rfl] at h
    cases h
    cases hA
    rfl
  rw [if_neg h24] at h
  by_cases h26 : id = 26
  · subst h26
    rw [if_pos rfl] at h
    cases h
    cases hA
    rfl
  rw [if_neg h26] at h
  by_cases h28 : id = 28
  · subst h28
    rw [if_pos rfl] at h
    cases h
    cases hA
    rfl
  rw [if_neg h28] at h
  by_cases h29 : id = 29
  · subst h29
    rw [if_pos rfl] at h
    cases h
    cases hA
    rfl
  rw [if_neg h29] at h
  by_cases h30 : id = 30
  · subst h30
    rw [if_pos rfl] at h
    cases h
    cases hA
    rfl
  rw [if_neg h30] at h
  by_cases h31 : id = 31
  · subst h31
    rw [if_pos rfl] at h
    cases h
    cases hA
    rfl
  rw [if_neg h31] at h
  by_cases h32 : id = 32
  · subst h32
    rw [if_pos rfl] at h
    cases h
    cases hA
    rfl
  rw [if_neg h32] at h
  by_cases h33 : id = 33
  · subst h33
    rw [if_pos rfl] at h
    cases h
    cases hA
    rfl
  rw [if_neg h33] at h
  by_cases h34 : id = 34
  · subst h34
    rw [if_pos rfl] at h
    cases h
    cases hA
    rfl
  rw [if_neg h34] at h
  by_cases h35 : id = 35
  · subst h35
    rw [if_pos rfl] at h
    cases h
    cases hA
    rfl
  rw [if_neg h35] at h
  by_cases h37 : id = 37
  · subst h37
    rw [if_pos rfl] at h
    cases h
    cases hA
    rfl
  rw [if_neg h37] at h
  by_cases h38 : id = 38
  · subst h38
    rw [if_pos rfl] at h
    cases h
    cases hA
    rfl
  rw [if_neg h38] at h
  by_cases h39 : id = 39
  · subst h39
    rw [if_pos rfl] at h
    cases h
    cases hA
    rfl
  rw [if_neg h39] at h
  by_cases h40 : id = 40
  · subst h40
    rw [if_pos rfl] at h
    cases h
    cases hA
    rfl
  rw [if_neg h40] at h
  by_cases h41 : id = 41
  · subst h41
    rw [if_pos rfl] at h
    cases h
    cases hA
    rfl
  rw [if_neg h41] at h
  by_cases h43 : id = 43
  · subst h43
    rw [if_pos rfl] at h
    cases h
    cases hA
    rfl
  rw [if_neg h43] at h
  by_cases h45 : id = 45
  · subst h45
    rw [if_pos rfl] at h
    cases h
    cases hA
    rfl
  rw [if_neg h45] at h
  by_cases h46 : id = 46
  · subst h46
    rw [if_pos rfl] at h
    cases h
    cases hA
    rfl
  rw [if_neg h46] at h
  by_cases h47 : id = 47
  · subst h47
    rw [if_pos rfl] at h
    cases h
    cases hA
    rfl
  rw [if_neg h47] at h
  by_cases h48 : id = 48
  · subst h48
    rw [if_pos rfl] at h
    cases h
    cases hA
    rfl
  rw [if_neg h48] at h
  by_cases h51 : id = 51
  · subst h51
    rw [if_pos rfl] at h
    cases h
    cases hA
    rfl
  rw [if_neg h51] at h
  cases h
set_option maxRecDepth 100000 in
theorem fpW_S : (∀ (S : FT) (g : Nat → Int32), fpW_sa S 2 g = some (S.sNow (S.now.sSettings g))) ∧
  (∀ (S : FT) (g : Nat → Int32), fpW_sa S 4 g = some (S.sNow (S.now.sP (S.now.P.sKinds g)))) ∧
  (∀ (S : FT) (g : Nat → Int32), fpW_sa S 5 g = some (S.sNow (S.now.sP (S.now.P.sShutoffs g)))) ∧
  (∀ (S : FT) (g : Nat → Int32), fpW_sa S 6 g = some (S.sNow (S.now.sP (S.now.P.sSteeps g)))) ∧
  (∀ (S : FT) (g : Nat → Int32), fpW_sa S 7 g = some (S.sNow (S.now.sP (S.now.P.sInService g)))) ∧
  (∀ (S : FT) (g : Nat → Int32), fpW_sa S 8 g = some (S.sNow (S.now.sP (S.now.P.sSpeeds g)))) ∧
  (∀ (S : FT) (g : Nat → Int32), fpW_sa S 9 g = some (S.sNow (S.now.sP (S.now.P.sMinutes g)))) ∧
  (∀ (S : FT) (g : Nat → Int32), fpW_sa S 10 g = some (S.sNow (S.now.sP (S.now.P.sSince g)))) ∧
  (∀ (S : FT) (g : Nat → Int32), fpW_sa S 11 g = some (S.sNow (S.now.sP (S.now.P.sStarts g)))) ∧
  (∀ (S : FT) (g : Nat → Int32), fpW_sa S 13 g = some (S.sNow (S.now.sZ (S.now.Z.sDemands g)))) ∧
  (∀ (S : FT) (g : Nat → Int32), fpW_sa S 14 g = some (S.sNow (S.now.sZ (S.now.Z.sIsOpen g)))) ∧
  (∀ (S : FT) (g : Nat → Int32), fpW_sa S 15 g = some (S.sNow (S.now.sZ (S.now.Z.sPzones g)))) ∧
  (∀ (S : FT) (g : Nat → Int32), fpW_sa S 16 g = some (S.sNow (S.now.sZ (S.now.Z.sOpening g)))) ∧
  (∀ (S : FT) (g : Nat → Int32), fpW_sa S 17 g = some (S.sNow (S.now.sZ (S.now.Z.sClosing g)))) ∧
  (∀ (S : FT) (g : Nat → Int32), fpW_sa S 19 g = some (S.sNow (S.now.sN (S.now.N.sNoted g)))) ∧
  (∀ (S : FT) (g : Nat → Int32), fpW_sa S 21 g = some (S.sNow (S.now.sE (S.now.E.sKinds g)))) ∧
  (∀ (S : FT) (g : Nat → Int32), fpW_sa S 22 g = some (S.sNow (S.now.sE (S.now.E.sTimes g)))) ∧
  (∀ (S : FT) (g : Nat → Int32), fpW_sa S 23 g = some (S.sNow (S.now.sE (S.now.E.sPumps g)))) ∧
  (∀ (S : FT) (g : Nat → Int32), fpW_sa S 24 g = some (S.sNow (S.now.sE (S.now.E.sLatest g)))) ∧
  (∀ (S : FT) (g : Nat → Int32), fpW_sa S 26 g = some (S.sTrial (S.trial.sSettings g))) ∧
  (∀ (S : FT) (g : Nat → Int32), fpW_sa S 28 g = some (S.sTrial (S.trial.sP (S.trial.P.sKinds g)))) ∧
  (∀ (S : FT) (g : Nat → Int32), fpW_sa S 29 g = some (S.sTrial (S.trial.sP (S.trial.P.sShutoffs g)))) ∧
  (∀ (S : FT) (g : Nat → Int32), fpW_sa S 30 g = some (S.sTrial (S.trial.sP (S.trial.P.sSteeps g)))) ∧
  (∀ (S : FT) (g : Nat → Int32), fpW_sa S 31 g = some (S.sTrial (S.trial.sP (S.trial.P.sInService g)))) ∧
  (∀ (S : FT) (g : Nat → Int32), fpW_sa S 32 g = some (S.sTrial (S.trial.sP (S.trial.P.sSpeeds g)))) ∧
  (∀ (S : FT) (g : Nat → Int32), fpW_sa S 33 g = some (S.sTrial (S.trial.sP (S.trial.P.sMinutes g)))) ∧
  (∀ (S : FT) (g : Nat → Int32), fpW_sa S 34 g = some (S.sTrial (S.trial.sP (S.trial.P.sSince g)))) ∧
  (∀ (S : FT) (g : Nat → Int32), fpW_sa S 35 g = some (S.sTrial (S.trial.sP (S.trial.P.sStarts g)))) ∧
  (∀ (S : FT) (g : Nat → Int32), fpW_sa S 37 g = some (S.sTrial (S.trial.sZ (S.trial.Z.sDemands g)))) ∧
  (∀ (S : FT) (g : Nat → Int32), fpW_sa S 38 g = some (S.sTrial (S.trial.sZ (S.trial.Z.sIsOpen g)))) ∧
  (∀ (S : FT) (g : Nat → Int32), fpW_sa S 39 g = some (S.sTrial (S.trial.sZ (S.trial.Z.sPzones g)))) ∧
  (∀ (S : FT) (g : Nat → Int32), fpW_sa S 40 g = some (S.sTrial (S.trial.sZ (S.trial.Z.sOpening g)))) ∧
  (∀ (S : FT) (g : Nat → Int32), fpW_sa S 41 g = some (S.sTrial (S.trial.sZ (S.trial.Z.sClosing g)))) ∧
  (∀ (S : FT) (g : Nat → Int32), fpW_sa S 43 g = some (S.sTrial (S.trial.sN (S.trial.N.sNoted g)))) ∧
  (∀ (S : FT) (g : Nat → Int32), fpW_sa S 45 g = some (S.sTrial (S.trial.sE (S.trial.E.sKinds g)))) ∧
  (∀ (S : FT) (g : Nat → Int32), fpW_sa S 46 g = some (S.sTrial (S.trial.sE (S.trial.E.sTimes g)))) ∧
  (∀ (S : FT) (g : Nat → Int32), fpW_sa S 47 g = some (S.sTrial (S.trial.sE (S.trial.E.sPumps g)))) ∧
  (∀ (S : FT) (g : Nat → Int32), fpW_sa S 48 g = some (S.sTrial (S.trial.sE (S.trial.E.sLatest g)))) ∧
  (∀ (S : FT) (g : Nat → Int32), fpW_sa S 51 g = some (S.sO (S.O.sText g))) := by
  repeat' apply And.intro
  all_goals (intro S g; rfl)
def fpW_p0_4 (S : FT) (id : Nat) (x : Int32) : Option FT := if id = 20 then some (S.sNow (S.now.sE (S.now.E.sAll x))) else if id = 44 then some (S.sTrial (S.trial.sE (S.trial.E.sAll x))) else none
theorem fpW_p0_4_ok : putOk fpW 0 4 fpW_p0_4 := by
  intro S id x S' h
  unfold fpW_p0_4 at h
  by_cases h20 : id = 20
  · subst h20
    rw [if_pos rfl] at h
    cases h
    exact ⟨_, rfl, Nat.le_of_ble_eq_true rfl, rfl⟩
  rw [if_neg h20] at h
  by_cases h44 : id = 44
  · subst h44
    rw [if_pos rfl] at h
    cases h
    exact ⟨_, rfl, Nat.le_of_ble_eq_true rfl, rfl⟩
  rw [if_neg h44] at h
  cases h
def fpW_p1_1 (S : FT) (id : Nat) (x : Int32) : Option FT := if id = 18 then some (S.sNow (S.now.sN (S.now.N.sSize x))) else if id = 42 then some (S.sTrial (S.trial.sN (S.trial.N.sSize x))) else none
theorem fpW_p1_1_ok : putOk fpW 1 1 fpW_p1_1 := by
  intro S id x S' h
  unfold fpW_p1_1 at h
  by_cases h18 : id = 18
  · subst h18
    rw [if_pos rfl] at h
    cases h
    exact ⟨_, rfl, Nat.le_of_ble_eq_true rfl, rfl⟩
  rw [if_neg h18] at h
  by_cases h42 : id = 42
  · subst h42
    rw [if_pos rfl] at h
    cases h
    exact ⟨_, rfl, Nat.le_of_ble_eq_true rfl, rfl⟩
  rw [if_neg h42] at h
  cases h
def fpW_p1_2 (S : FT) (id : Nat) (x : Int32) : Option FT := if id = 18 then some (S.sNow (S.now.sN (S.now.N.sFlow x))) else if id = 42 then some (S.sTrial (S.trial.sN (S.trial.N.sFlow x))) else none
theorem fpW_p1_2_ok : putOk fpW 1 2 fpW_p1_2 := by
  intro S id x S' h
  unfold fpW_p1_2 at h
  by_cases h18 : id = 18
  · subst h18
    rw [if_pos rfl] at h
    cases h
    exact ⟨_, rfl, Nat.le_of_ble_eq_true rfl, rfl⟩
  rw [if_neg h18] at h
  by_cases h42 : id = 42
  · subst h42
    rw [if_pos rfl] at h
    cases h
    exact ⟨_, rfl, Nat.le_of_ble_eq_true rfl, rfl⟩
  rw [if_neg h42] at h
  cases h
def fpW_p1_3 (S : FT) (id : Nat) (x : Int32) : Option FT := if id = 18 then some (S.sNow (S.now.sN (S.now.N.sAlarms x))) else if id = 42 then some (S.sTrial (S.trial.sN (S.trial.N.sAlarms x))) else none
theorem fpW_p1_3_ok : putOk fpW 1 3 fpW_p1_3 := by
  intro S id x S' h
  unfold fpW_p1_3 at h
  by_cases h18 : id = 18
  · subst h18
    rw [if_pos rfl] at h
    cases h
    exact ⟨_, rfl, Nat.le_of_ble_eq_true rfl, rfl⟩
  rw [if_neg h18] at h
  by_cases h42 : id = 42
  · subst h42
    rw [if_pos rfl] at h
    cases h
    exact ⟨_, rfl, Nat.le_of_ble_eq_true rfl, rfl⟩
  rw [if_neg h42] at h
  cases h
def fpW_p2_1 (S : FT) (id : Nat) (x : Int32) : Option FT := if id = 50 then some (S.sO (S.O.sLength x)) else none
theorem fpW_p2_1_ok : putOk fpW 2 1 fpW_p2_1 := by
  intro S id x S' h
  unfold fpW_p2_1 at h
  by_cases h50 : id = 50
  · subst h50
    rw [if_pos rfl] at h
    cases h
    exact ⟨_, rfl, Nat.le_of_ble_eq_true rfl, rfl⟩
  rw [if_neg h50] at h
  cases h
def fpW_p2_2 (S : FT) (id : Nat) (x : Int32) : Option FT := if id = 50 then some (S.sO (S.O.sPlace x)) else none
theorem fpW_p2_2_ok : putOk fpW 2 2 fpW_p2_2 := by
  intro S id x S' h
  unfold fpW_p2_2 at h
  by_cases h50 : id = 50
  · subst h50
    rw [if_pos rfl] at h
    cases h
    exact ⟨_, rfl, Nat.le_of_ble_eq_true rfl, rfl⟩
  rw [if_neg h50] at h
  cases h
def fpW_p2_3 (S : FT) (id : Nat) (x : Int32) : Option FT := if id = 50 then some (S.sO (S.O.sBehind x)) else none
theorem fpW_p2_3_ok : putOk fpW 2 3 fpW_p2_3 := by
  intro S id x S' h
  unfold fpW_p2_3 at h
  by_cases h50 : id = 50
  · subst h50
    rw [if_pos rfl] at h
    cases h
    exact ⟨_, rfl, Nat.le_of_ble_eq_true rfl, rfl⟩
  rw [if_neg h50] at h
  cases h
def fpW_p2_4 (S : FT) (id : Nat) (x : Int32) : Option FT := if id = 50 then some (S.sO (S.O.sDone x)) else none
theorem fpW_p2_4_ok : putOk fpW 2 4 fpW_p2_4 := by
  intro S id x S' h
  unfold fpW_p2_4 at h
  by_cases h50 : id = 50
  · subst h50
    rw [if_pos rfl] at h
    cases h
    exact ⟨_, rfl, Nat.le_of_ble_eq_true rfl, rfl⟩
  rw [if_neg h50] at h
  cases h
def fpW_p2_5 (S : FT) (id : Nat) (x : Int32) : Option FT := if id = 50 then some (S.sO (S.O.sLetter x)) else none
theorem fpW_p2_5_ok : putOk fpW 2 5 fpW_p2_5 := by
  intro S id x S' h
  unfold fpW_p2_5 at h
  by_cases h50 : id = 50
  · subst h50
    rw [if_pos rfl] at h
    cases h
    exact ⟨_, rfl, Nat.le_of_ble_eq_true rfl, rfl⟩
  rw [if_neg h50] at h
  cases h
def fpW_p2_6 (S : FT) (id : Nat) (x : Int32) : Option FT := if id = 50 then some (S.sO (S.O.sNumber x)) else none
theorem fpW_p2_6_ok : putOk fpW 2 6 fpW_p2_6 := by
  intro S id x S' h
  unfold fpW_p2_6 at h
  by_cases h50 : id = 50
  · subst h50
    rw [if_pos rfl] at h
    cases h
    exact ⟨_, rfl, Nat.le_of_ble_eq_true rfl, rfl⟩
  rw [if_neg h50] at h
  cases h
def fpW_p3_8 (S : FT) (id : Nat) (x : Int32) : Option FT := if id = 3 then some (S.sNow (S.now.sP (S.now.P.sSize x))) else if id = 27 then some (S.sTrial (S.trial.sP (S.trial.P.sSize x))) else none
theorem fpW_p3_8_ok : putOk fpW 3 8 fpW_p3_8 := by
  intro S id x S' h
  unfold fpW_p3_8 at h
  by_cases h3 : id = 3
  · subst h3
    rw [if_pos rfl] at h
    cases h
    exact ⟨_, rfl, Nat.le_of_ble_eq_true rfl, rfl⟩
  rw [if_neg h3] at h
  by_cases h27 : id = 27
  · subst h27
    rw [if_pos rfl] at h
    cases h
    exact ⟨_, rfl, Nat.le_of_ble_eq_true rfl, rfl⟩
  rw [if_neg h27] at h
  cases h
def fpW_p3_9 (S : FT) (id : Nat) (x : Int32) : Option FT := if id = 3 then some (S.sNow (S.now.sP (S.now.P.sVrb x))) else if id = 27 then some (S.sTrial (S.trial.sP (S.trial.P.sVrb x))) else none
theorem fpW_p3_9_ok : putOk fpW 3 9 fpW_p3_9 := by
  intro S id x S' h
  unfold fpW_p3_9 at h
  by_cases h3 : id = 3
  · subst h3
    rw [if_pos rfl] at h
    cases h
    exact ⟨_, rfl, Nat.le_of_ble_eq_true rfl, rfl⟩
  rw [if_neg h3] at h
  by_cases h27 : id = 27
  · subst h27
    rw [if_pos rfl] at h
    cases h
    exact ⟨_, rfl, Nat.le_of_ble_eq_true rfl, rfl⟩
  rw [if_neg h27] at h
  cases h
def fpW_p4_5 (S : FT) (id : Nat) (x : Int32) : Option FT := if id = 1 then some (S.sNow (S.now.sTime x)) else if id = 25 then some (S.sTrial (S.trial.sTime x)) else none
theorem fpW_p4_5_ok : putOk fpW 4 5 fpW_p4_5 := by
  intro S id x S' h
  unfold fpW_p4_5 at h
  by_cases h1 : id = 1
  · subst h1
    rw [if_pos rfl] at h
    cases h
    exact ⟨_, rfl, Nat.le_of_ble_eq_true rfl, rfl⟩
  rw [if_neg h1] at h
  by_cases h25 : id = 25
  · subst h25
    rw [if_pos rfl] at h
    cases h
    exact ⟨_, rfl, Nat.le_of_ble_eq_true rfl, rfl⟩
  rw [if_neg h25] at h
  cases h
def fpW_p4_6 (S : FT) (id : Nat) (x : Int32) : Option FT := if id = 1 then some (S.sNow (S.now.sPressure x)) else if id = 25 then some (S.sTrial (S.trial.sPressure x)) else none
theorem fpW_p4_6_ok : putOk fpW 4 6 fpW_p4_6 := by
  intro S id x S' h
  unfold fpW_p4_6 at h
  by_cases h1 : id = 1
  · subst h1
    rw [if_pos rfl] at h
    cases h
    exact ⟨_, rfl, Nat.le_of_ble_eq_true rfl, rfl⟩
  rw [if_neg h1] at h
  by_cases h25 : id = 25
  · subst h25
    rw [if_pos rfl] at h
    cases h
    exact ⟨_, rfl, Nat.le_of_ble_eq_true rfl, rfl⟩
  rw [if_neg h25] at h
  cases h
def fpW_p4_7 (S : FT) (id : Nat) (x : Int32) : Option FT := if id = 1 then some (S.sNow (S.now.sLevel x)) else if id = 25 then some (S.sTrial (S.trial.sLevel x)) else none
theorem fpW_p4_7_ok : putOk fpW 4 7 fpW_p4_7 := by
  intro S id x S' h
  unfold fpW_p4_7 at h
  by_cases h1 : id = 1
  · subst h1
    rw [if_pos rfl] at h
    cases h
    exact ⟨_, rfl, Nat.le_of_ble_eq_true rfl, rfl⟩
  rw [if_neg h1] at h
  by_cases h25 : id = 25
  · subst h25
    rw [if_pos rfl] at h
    cases h
    exact ⟨_, rfl, Nat.le_of_ble_eq_true rfl, rfl⟩
  rw [if_neg h25] at h
  cases h
def fpW_p4_8 (S : FT) (id : Nat) (x : Int32) : Option FT := if id = 1 then some (S.sNow (S.now.sLeak x)) else if id = 25 then some (S.sTrial (S.trial.sLeak x)) else none
theorem fpW_p4_8_ok : putOk fpW 4 8 fpW_p4_8 := by
  intro S id x S' h
  unfold fpW_p4_8 at h
  by_cases h1 : id = 1
  · subst h1
    rw [if_pos rfl] at h
    cases h
    exact ⟨_, rfl, Nat.le_of_ble_eq_true rfl, rfl⟩
  rw [if_neg h1] at h
  by_cases h25 : id = 25
  · subst h25
    rw [if_pos rfl] at h
    cases h
    exact ⟨_, rfl, Nat.le_of_ble_eq_true rfl, rfl⟩
  rw [if_neg h25] at h
  cases h
def fpW_p4_9 (S : FT) (id : Nat) (x : Int32) : Option FT := if id = 1 then some (S.sNow (S.now.sSupply x)) else if id = 25 then some (S.sTrial (S.trial.sSupply x)) else none
theorem fpW_p4_9_ok : putOk fpW 4 9 fpW_p4_9 := by
  intro S id x S' h
  unfold fpW_p4_9 at h
  by_cases h1 : id = 1
  · subst h1
    rw [if_pos rfl] at h
    cases h
    exact ⟨_, rfl, Nat.le_of_ble_eq_true rfl, rfl⟩
  rw [if_neg h1] at h
  by_cases h25 : id = 25
  · subst h25
    rw [if_pos rfl] at h
    cases h
    exact ⟨_, rfl, Nat.le_of_ble_eq_true rfl, rfl⟩
  rw [if_neg h25] at h
  cases h
def fpW_p4_10 (S : FT) (id : Nat) (x : Int32) : Option FT := if id = 1 then some (S.sNow (S.now.sAllSupplied x)) else if id = 25 then some (S.sTrial (S.trial.sAllSupplied x)) else none
theorem fpW_p4_10_ok : putOk fpW 4 10 fpW_p4_10 := by
  intro S id x S' h
  unfold fpW_p4_10 at h
  by_cases h1 : id = 1
  · subst h1
    rw [if_pos rfl] at h
    cases h
    exact ⟨_, rfl, Nat.le_of_ble_eq_true rfl, rfl⟩
  rw [if_neg h1] at h
  by_cases h25 : id = 25
  · subst h25
    rw [if_pos rfl] at h
    cases h
    exact ⟨_, rfl, Nat.le_of_ble_eq_true rfl, rfl⟩
  rw [if_neg h25] at h
  cases h
def fpW_p4_11 (S : FT) (id : Nat) (x : Int32) : Option FT := if id = 1 then some (S.sNow (S.now.sDry x)) else if id = 25 then some (S.sTrial (S.trial.sDry x)) else none
theorem fpW_p4_11_ok : putOk fpW 4 11 fpW_p4_11 := by
  intro S id x S' h
  unfold fpW_p4_11 at h
  by_cases h1 : id = 1
  · subst h1
    rw [if_pos rfl] at h
    cases h
    exact ⟨_, rfl, Nat.le_of_ble_eq_true rfl, rfl⟩
  rw [if_neg h1] at h
  by_cases h25 : id = 25
  · subst h25
    rw [if_pos rfl] at h
    cases h
    exact ⟨_, rfl, Nat.le_of_ble_eq_true rfl, rfl⟩
  rw [if_neg h25] at h
  cases h
def fpW_p4_12 (S : FT) (id : Nat) (x : Int32) : Option FT := if id = 1 then some (S.sNow (S.now.sDryMinutes x)) else if id = 25 then some (S.sTrial (S.trial.sDryMinutes x)) else none
theorem fpW_p4_12_ok : putOk fpW 4 12 fpW_p4_12 := by
  intro S id x S' h
  unfold fpW_p4_12 at h
  by_cases h1 : id = 1
  · subst h1
    rw [if_pos rfl] at h
    cases h
    exact ⟨_, rfl, Nat.le_of_ble_eq_true rfl, rfl⟩
  rw [if_neg h1] at h
  by_cases h25 : id = 25
  · subst h25
    rw [if_pos rfl] at h
    cases h
    exact ⟨_, rfl, Nat.le_of_ble_eq_true rfl, rfl⟩
  rw [if_neg h25] at h
  cases h
def fpW_p4_13 (S : FT) (id : Nat) (x : Int32) : Option FT := if id = 1 then some (S.sNow (S.now.sTrips x)) else if id = 25 then some (S.sTrial (S.trial.sTrips x)) else none
theorem fpW_p4_13_ok : putOk fpW 4 13 fpW_p4_13 := by
  intro S id x S' h
  unfold fpW_p4_13 at h
  by_cases h1 : id = 1
  · subst h1
    rw [if_pos rfl] at h
    cases h
    exact ⟨_, rfl, Nat.le_of_ble_eq_true rfl, rfl⟩
  rw [if_neg h1] at h
  by_cases h25 : id = 25
  · subst h25
    rw [if_pos rfl] at h
    cases h
    exact ⟨_, rfl, Nat.le_of_ble_eq_true rfl, rfl⟩
  rw [if_neg h25] at h
  cases h
def fpW_p4_14 (S : FT) (id : Nat) (x : Int32) : Option FT := if id = 1 then some (S.sNow (S.now.sToStart x)) else if id = 25 then some (S.sTrial (S.trial.sToStart x)) else none
theorem fpW_p4_14_ok : putOk fpW 4 14 fpW_p4_14 := by
  intro S id x S' h
  unfold fpW_p4_14 at h
  by_cases h1 : id = 1
  · subst h1
    rw [if_pos rfl] at h
    cases h
    exact ⟨_, rfl, Nat.le_of_ble_eq_true rfl, rfl⟩
  rw [if_neg h1] at h
  by_cases h25 : id = 25
  · subst h25
    rw [if_pos rfl] at h
    cases h
    exact ⟨_, rfl, Nat.le_of_ble_eq_true rfl, rfl⟩
  rw [if_neg h25] at h
  cases h
def fpW_p4_15 (S : FT) (id : Nat) (x : Int32) : Option FT := if id = 1 then some (S.sNow (S.now.sToStop x)) else if id = 25 then some (S.sTrial (S.trial.sToStop x)) else none
theorem fpW_p4_15_ok : putOk fpW 4 15 fpW_p4_15 := by
  intro S id x S' h
  unfold fpW_p4_15 at h
  by_cases h1 : id = 1
  · subst h1
    rw [if_pos rfl] at h
    cases h
    exact ⟨_, rfl, Nat.le_of_ble_eq_true rfl, rfl⟩
  rw [if_neg h1] at h
  by_cases h25 : id = 25
  · subst h25
    rw [if_pos rfl] at h
    cases h
    exact ⟨_, rfl, Nat.le_of_ble_eq_true rfl, rfl⟩
  rw [if_neg h25] at h
  cases h
def fpW_p4_16 (S : FT) (id : Nat) (x : Int32) : Option FT := if id = 1 then some (S.sNow (S.now.sToSleep x)) else if id = 25 then some (S.sTrial (S.trial.sToSleep x)) else none
theorem fpW_p4_16_ok : putOk fpW 4 16 fpW_p4_16 := by
  intro S id x S' h
  unfold fpW_p4_16 at h
  by_cases h1 : id = 1
  · subst h1
    rw [if_pos rfl] at h
    cases h
    exact ⟨_, rfl, Nat.le_of_ble_eq_true rfl, rfl⟩
  rw [if_neg h1] at h
  by_cases h25 : id = 25
  · subst h25
    rw [if_pos rfl] at h
    cases h
    exact ⟨_, rfl, Nat.le_of_ble_eq_true rfl, rfl⟩
  rw [if_neg h25] at h
  cases h
def fpW_p5_2 (S : FT) (id : Nat) (x : Int32) : Option FT := if id = 12 then some (S.sNow (S.now.sZ (S.now.Z.sSize x))) else if id = 36 then some (S.sTrial (S.trial.sZ (S.trial.Z.sSize x))) else none
theorem fpW_p5_2_ok : putOk fpW 5 2 fpW_p5_2 := by
  intro S id x S' h
  unfold fpW_p5_2 at h
  by_cases h12 : id = 12
  · subst h12
    rw [if_pos rfl] at h
    cases h
    exact ⟨_, rfl, Nat.le_of_ble_eq_true rfl, rfl⟩
  rw [if_neg h12] at h
  by_cases h36 : id = 36
  · subst h36
    rw [if_pos rfl] at h
    cases h
    exact ⟨_, rfl, Nat.le_of_ble_eq_true rfl, rfl⟩
  rw [if_neg h36] at h
  cases h
def fpW_p5_6 (S : FT) (id : Nat) (x : Int32) : Option FT := if id = 12 then some (S.sNow (S.now.sZ (S.now.Z.sProgrammes x))) else if id = 36 then some (S.sTrial (S.trial.sZ (S.trial.Z.sProgrammes x))) else none
theorem fpW_p5_6_ok : putOk fpW 5 6 fpW_p5_6 := by
  intro S id x S' h
  unfold fpW_p5_6 at h
  by_cases h12 : id = 12
  · subst h12
    rw [if_pos rfl] at h
    cases h
    exact ⟨_, rfl, Nat.le_of_ble_eq_true rfl, rfl⟩
  rw [if_neg h12] at h
  by_cases h36 : id = 36
  · subst h36
    rw [if_pos rfl] at h
    cases h
    exact ⟨_, rfl, Nat.le_of_ble_eq_true rfl, rfl⟩
  rw [if_neg h36] at h
  cases h
def fpW_p6_3 (S : FT) (id : Nat) (x : Int32) : Option FT := if id = 0 then some (S.sStates x) else none
theorem fpW_p6_3_ok : putOk fpW 6 3 fpW_p6_3 := by
  intro S id x S' h
  unfold fpW_p6_3 at h
  by_cases h0 : id = 0
  · subst h0
    rw [if_pos rfl] at h
    cases h
    exact ⟨_, rfl, Nat.le_of_ble_eq_true rfl, rfl⟩
  rw [if_neg h0] at h
  cases h
set_option maxRecDepth 100000 in
theorem fpW_P : (∀ (S : FT) (x : Int32), fpW_p0_4 S 20 x = some (S.sNow (S.now.sE (S.now.E.sAll x)))) ∧
  (∀ (S : FT) (x : Int32), fpW_p0_4 S 44 x = some (S.sTrial (S.trial.sE (S.trial.E.sAll x)))) ∧
  (∀ (S : FT) (x : Int32), fpW_p1_1 S 18 x = some (S.sNow (S.now.sN (S.now.N.sSize x)))) ∧
  (∀ (S : FT) (x : Int32), fpW_p1_1 S 42 x = some (S.sTrial (S.trial.sN (S.trial.N.sSize x)))) ∧
  (∀ (S : FT) (x : Int32), fpW_p1_2 S 18 x = some (S.sNow (S.now.sN (S.now.N.sFlow x)))) ∧
  (∀ (S : FT) (x : Int32), fpW_p1_2 S 42 x = some (S.sTrial (S.trial.sN (S.trial.N.sFlow x)))) ∧
  (∀ (S : FT) (x : Int32), fpW_p1_3 S 18 x = some (S.sNow (S.now.sN (S.now.N.sAlarms x)))) ∧
  (∀ (S : FT) (x : Int32), fpW_p1_3 S 42 x = some (S.sTrial (S.trial.sN (S.trial.N.sAlarms x)))) ∧
  (∀ (S : FT) (x : Int32), fpW_p2_1 S 50 x = some (S.sO (S.O.sLength x))) ∧
  (∀ (S : FT) (x : Int32), fpW_p2_2 S 50 x = some (S.sO (S.O.sPlace x))) ∧
  (∀ (S : FT) (x : Int32), fpW_p2_3 S 50 x = some (S.sO (S.O.sBehind x))) ∧
  (∀ (S : FT) (x : Int32), fpW_p2_4 S 50 x = some (S.sO (S.O.sDone x))) ∧
  (∀ (S : FT) (x : Int32), fpW_p2_5 S 50 x = some (S.sO (S.O.sLetter x))) ∧
  (∀ (S : FT) (x : Int32), fpW_p2_6 S 50 x = some (S.sO (S.O.sNumber x))) ∧
  (∀ (S : FT) (x : Int32), fpW_p3_8 S 3 x = some (S.sNow (S.now.sP (S.now.P.sSize x)))) ∧
  (∀ (S : FT) (x : Int32), fpW_p3_8 S 27 x = some (S.sTrial (S.trial.sP (S.trial.P.sSize x)))) ∧
  (∀ (S : FT) (x : Int32), fpW_p3_9 S 3 x = some (S.sNow (S.now.sP (S.now.P.sVrb x)))) ∧
  (∀ (S : FT) (x : Int32), fpW_p3_9 S 27 x = some (S.sTrial (S.trial.sP (S.trial.P.sVrb x)))) ∧
  (∀ (S : FT) (x : Int32), fpW_p4_5 S 1 x = some (S.sNow (S.now.sTime x))) ∧
  (∀ (S : FT) (x : Int32), fpW_p4_5 S 25 x = some (S.sTrial (S.trial.sTime x))) ∧
  (∀ (S : FT) (x : Int32), fpW_p4_6 S 1 x = some (S.sNow (S.now.sPressure x))) ∧
  (∀ (S : FT) (x : Int32), fpW_p4_6 S 25 x = some (S.sTrial (S.trial.sPressure x))) ∧
  (∀ (S : FT) (x : Int32), fpW_p4_7 S 1 x = some (S.sNow (S.now.sLevel x))) ∧
  (∀ (S : FT) (x : Int32), fpW_p4_7 S 25 x = some (S.sTrial (S.trial.sLevel x))) ∧
  (∀ (S : FT) (x : Int32), fpW_p4_8 S 1 x = some (S.sNow (S.now.sLeak x))) ∧
  (∀ (S : FT) (x : Int32), fpW_p4_8 S 25 x = some (S.sTrial (S.trial.sLeak x))) ∧
  (∀ (S : FT) (x : Int32), fpW_p4_9 S 1 x = some (S.sNow (S.now.sSupply x))) ∧
  (∀ (S : FT) (x : Int32), fpW_p4_9 S 25 x = some (S.sTrial (S.trial.sSupply x))) ∧
  (∀ (S : FT) (x : Int32), fpW_p4_10 S 1 x = some (S.sNow (S.now.sAllSupplied x))) ∧
  (∀ (S : FT) (x : Int32), fpW_p4_10 S 25 x = some (S.sTrial (S.trial.sAllSupplied x))) ∧
  (∀ (S : FT) (x : Int32), fpW_p4_11 S 1 x = some (S.sNow (S.now.sDry x))) ∧
  (∀ (S : FT) (x : Int32), fpW_p4_11 S 25 x = some (S.sTrial (S.trial.sDry x))) ∧
  (∀ (S : FT) (x : Int32), fpW_p4_12 S 1 x = some (S.sNow (S.now.sDryMinutes x))) ∧
  (∀ (S : FT) (x : Int32), fpW_p4_12 S 25 x = some (S.sTrial (S.trial.sDryMinutes x))) ∧
  (∀ (S : FT) (x : Int32), fpW_p4_13 S 1 x = some (S.sNow (S.now.sTrips x))) ∧
  (∀ (S : FT) (x : Int32), fpW_p4_13 S 25 x = some (S.sTrial (S.trial.sTrips x))) ∧
  (∀ (S : FT) (x : Int32), fpW_p4_14 S 1 x = some (S.sNow (S.now.sToStart x))) ∧
  (∀ (S : FT) (x : Int32), fpW_p4_14 S 25 x = some (S.sTrial (S.trial.sToStart x))) ∧
  (∀ (S : FT) (x : Int32), fpW_p4_15 S 1 x = some (S.sNow (S.now.sToStop x))) ∧
  (∀ (S : FT) (x : Int32), fpW_p4_15 S 25 x = some (S.sTrial (S.trial.sToStop x))) ∧
  (∀ (S : FT) (x : Int32), fpW_p4_16 S 1 x = some (S.sNow (S.now.sToSleep x))) ∧
  (∀ (S : FT) (x : Int32), fpW_p4_16 S 25 x = some (S.sTrial (S.trial.sToSleep x))) ∧
  (∀ (S : FT) (x : Int32), fpW_p5_2 S 12 x = some (S.sNow (S.now.sZ (S.now.Z.sSize x)))) ∧
  (∀ (S : FT) (x : Int32), fpW_p5_2 S 36 x = some (S.sTrial (S.trial.sZ (S.trial.Z.sSize x)))) ∧
  (∀ (S : FT) (x : Int32), fpW_p5_6 S 12 x = some (S.sNow (S.now.sZ (S.now.Z.sProgrammes x)))) ∧
  (∀ (S : FT) (x : Int32), fpW_p5_6 S 36 x = some (S.sTrial (S.trial.sZ (S.trial.Z.sProgrammes x)))) ∧
  (∀ (S : FT) (x : Int32), fpW_p6_3 S 0 x = some (S.sStates x)) := by
  repeat' apply And.intro
  all_goals (intro S x; rfl)
end
section
/-! ===== equations by which a walk is computed ===== -/
def oK {α : Type} (o : Option α) (k : α → Prop) : Prop := match o with
  | some v => k v
  | none => False
def oA (o : Option (Nat × Nat × (Nat → Int32))) (k : Nat → Nat → (Nat → Int32) → Prop) : Prop := match o with
  | some (t, n, f) => k t n f
  | none => False
def oR (o : Option (Nat × (Nat → Option Nat))) (k : Nat → (Nat → Option Nat) → Prop) : Prop := match o with
  | some (n, f) => k n f
  | none => False
theorem oK_eq : (∀ {α : Type} (v : α) (k : α → Prop), oK (some v) k = k v) ∧ (∀ (t n : Nat) (f : Nat → Int32) (k : Nat → Nat → (Nat → Int32) → Prop), oA (some (t, n, f)) k = k t n f) ∧ (∀ (n : Nat) (f : Nat → Option Nat) (k : Nat → (Nat → Option Nat) → Prop), oR (some (n, f)) k = k n f) := ⟨fun _ _ => rfl, fun _ _ _ _ => rfl, fun _ _ _ => rfl⟩
set_option maxRecDepth 100000 in
theorem xst_eq : (∀ (a : Option Value) (L : xL) (v : Value), xst1 (a :: L) 0 v = some v :: L) ∧
  (∀ (a b : Option Value) (L : xL) (v : Value), xst2 (a :: b :: L) 0 v = some v :: none :: L) ∧
  (∀  (b : Option Value) (L : xL) (v : Value), xst1 (none :: b :: L) 1 v = none :: some v :: L) ∧
  (∀  (b c : Option Value) (L : xL) (v : Value), xst2 (none :: b :: c :: L) 1 v = none :: some v :: none :: L) ∧
  (∀ (y : Int32) (b : Option Value) (L : xL) (v : Value), xst1 (some (.int y) :: b :: L) 1 v = some (.int y) :: some v :: L) ∧
  (∀ (y : Int32) (b c : Option Value) (L : xL) (v : Value), xst2 (some (.int y) :: b :: c :: L) 1 v = some (.int y) :: some v :: none :: L) ∧
  (∀ (y : Nat) (b : Option Value) (L : xL) (v : Value), xst1 (some (.ref y) :: b :: L) 1 v = some (.ref y) :: some v :: L) ∧
  (∀ (y : Nat) (b c : Option Value) (L : xL) (v : Value), xst2 (some (.ref y) :: b :: c :: L) 1 v = some (.ref y) :: some v :: none :: L) ∧
  (∀  (y : Int64) (b : Option Value) (L : xL) (v : Value), xst1 (some (.long y) :: b :: L) 1 v = none :: some v :: L) ∧
  (∀ (a0 : Option Value)  (b : Option Value) (L : xL) (v : Value), xst1 (a0 :: none :: b :: L) 2 v = a0 :: none :: some v :: L) ∧
  (∀ (a0 : Option Value)  (b c : Option Value) (L : xL) (v : Value), xst2 (a0 :: none :: b :: c :: L) 2 v = a0 :: none :: some v :: none :: L) ∧
  (∀ (a0 : Option Value) (y : Int32) (b : Option Value) (L : xL) (v : Value), xst1 (a0 :: some (.int y) :: b :: L) 2 v = a0 :: some (.int y) :: some v :: L) ∧
  (∀ (a0 : Option Value) (y : Int32) (b c : Option Value) (L : xL) (v : Value), xst2 (a0 :: some (.int y) :: b :: c :: L) 2 v = a0 :: some (.int y) :: some v :: none :: L) ∧
  (∀ (a0 : Option Value) (y : Nat) (b : Option Value) (L : xL) (v : Value), xst1 (a0 :: some (.ref y) :: b :: L) 2 v = a0 :: some (.ref y) :: some v :: L) ∧
  (∀ (a0 : Option Value) (y : Nat) (b c : Option Value) (L : xL) (v : Value), xst2 (a0 :: some (.ref y) :: b :: c :: L) 2 v = a0 :: some (.ref y) :: some v :: none :: L) ∧
  (∀ (a0 : Option Value)  (y : Int64) (b : Option Value) (L : xL) (v : Value), xst1 (a0 :: some (.long y) :: b :: L) 2 v = a0 :: none :: some v :: L) ∧
  (∀ (a0 a1 : Option Value)  (b : Option Value) (L : xL) (v : Value), xst1 (a0 :: a1 :: none :: b :: L) 3 v = a0 :: a1 :: none :: some v :: L) ∧
  (∀ (a0 a1 : Option Value)  (b c : Option Value) (L : xL) (v : Value), xst2 (a0 :: a1 :: none :: b :: c :: L) 3 v = a0 :: a1 :: none :: some v :: none :: L) ∧
  (∀ (a0 a1 : Option Value) (y : Int32) (b : Option Value) (L : xL) (v : Value), xst1 (a0 :: a1 :: some (.int y) :: b :: L) 3 v = a0 :: a1 :: some (.int y) :: some v :: L) ∧
  (∀ (a0 a1 : Option Value) (y : Int32) (b c : Option Value) (L : xL) (v : Value), xst2 (a0 :: a1 :: some (.int y) :: b :: c :: L) 3 v = a0 :: a1 :: some (.int y) :: some v :: none :: L) ∧
  (∀ (a0 a1 : Option Value) (y : Nat) (b : Option Value) (L : xL) (v : Value), xst1 (a0 :: a1 :: some (.ref y) :: b :: L) 3 v = a0 :: a1 :: some (.ref y) :: some v :: L) ∧
  (∀ (a0 a1 : Option Value) (y : Nat) (b c : Option Value) (L : xL) (v : Value), xst2 (a0 :: a1 :: some (.ref y) :: b :: c :: L) 3 v = a0 :: a1 :: some (.ref y) :: some v :: none :: L) ∧
  (∀ (a0 a1 : Option Value)  (y : Int64) (b : Option Value) (L : xL) (v : Value), xst1 (a0 :: a1 :: some (.long y) :: b :: L) 3 v = a0 :: a1 :: none :: some v :: L) ∧
  (∀ (a0 a1 a2 : Option Value)  (b : Option Value) (L : xL) (v : Value), xst1 (a0 :: a1 :: a2 :: none :: b :: L) 4 v = a0 :: a1 :: a2 :: none :: some v :: L) ∧
  (∀ (a0 a1 a2 : Option Value)  (b c : Option Value) (L : xL) (v : Value), xst2 (a0 :: a1 :: a2 :: none :: b :: c :: L) 4 v = a0 :: a1 :: a2 :: none :: some v :: none :: L) ∧
  (∀ (a0 a1 a2 : Option Value) (y : Int32) (b : Option Value) (L : xL) (v : Value), xst1 (a0 :: a1 :: a2 :: some (.int y) :: b :: L) 4 v = a0 :: a1 :: a2 :: some (.int y) :: some v :: L) ∧
  (∀ (a0 a1 a2 : Option Value) (y : Int32) (b c : Option Value) (L : xL) (v : Value), xst2 (a0 :: a1 :: a2 :: some (.int y) :: b :: c :: L) 4 v = a0 :: a1 :: a2 :: some (.int y) :: some v :: none :: L) ∧
  (∀ (a0 a1 a2 : Option Value) (y : Nat) (b : Option Value) (L : xL) (v : Value), xst1 (a0 :: a1 :: a2 :: some (.ref y) :: b :: L) 4 v = a0 :: a1 :: a2 :: some (.ref y) :: some v :: L) ∧
  (∀ (a0 a1 a2 : Option Value) (y : Nat) (b c : Option Value) (L : xL) (v : Value), xst2 (a0 :: a1 :: a2 :: some (.ref y) :: b :: c :: L) 4 v = a0 :: a1 :: a2 :: some (.ref y) :: some v :: none :: L) ∧
  (∀ (a0 a1 a2 : Option Value)  (y : Int64) (b : Option Value) (L : xL) (v : Value), xst1 (a0 :: a1 :: a2 :: some (.long y) :: b :: L) 4 v = a0 :: a1 :: a2 :: none :: some v :: L) ∧
  (∀ (a0 a1 a2 a3 : Option Value)  (b : Option Value) (L : xL) (v : Value), xst1 (a0 :: a1 :: a2 :: a3 :: none :: b :: L) 5 v = a0 :: a1 :: a2 :: a3 :: none :: some v :: L) ∧
  (∀ (a0 a1 a2 a3 : Option Value)  (b c : Option Value) (L : xL) (v : Value), xst2 (a0 :: a1 :: a2 :: a3 :: none :: b :: c :: L) 5 v = a0 :: a1 :: a2 :: a3 :: none :: some v :: none :: L) ∧
  (∀ (a0 a1 a2 a3 : Option Value) (y : Int32) (b : Option Value) (L : xL) (v : Value), xst1 (a0 :: a1 :: a2 :: a3 :: some (.int y) :: b :: L) 5 v = a0 :: a1 :: a2 :: a3 :: some (.int y) :: some v :: L) ∧
  (∀ (a0 a1 a2 a3 : Option Value) (y : Int32) (b c : Option Value) (L : xL) (v : Value), xst2 (a0 :: a1 :: a2 :: a3 :: some (.int y) :: b :: c :: L) 5 v = a0 :: a1 :: a2 :: a3 :: some (.int y) :: some v :: none :: L) ∧
  (∀ (a0 a1 a2 a3 : Option Value) (y : Nat) (b : Option Value) (L : xL) (v : Value), xst1 (a0 :: a1 :: a2 :: a3 :: some (.ref y) :: b :: L) 5 v = a0 :: a1 :: a2 :: a3 :: some (.ref y) :: some v :: L) ∧
  (∀ (a0 a1 a2 a3 : Option Value) (y : Nat) (b c : Option Value) (L : xL) (v : Value), xst2 (a0 :: a1 :: a2 :: a3 :: some (.ref y) :: b :: c :: L) 5 v = a0 :: a1 :: a2 :: a3 :: some (.ref y) :: some v :: none :: L) ∧
  (∀ (a0 a1 a2 a3 : Option Value)  (y : Int64) (b : Option Value) (L : xL) (v : Value), xst1 (a0 :: a1 :: a2 :: a3 :: some (.long y) :: b :: L) 5 v = a0 :: a1 :: a2 :: a3 :: none :: some v :: L) ∧
  (∀ (a0 a1 a2 a3 a4 : Option Value)  (b : Option Value) (L : xL) (v : Value), xst1 (a0 :: a1 :: a2 :: a3 :: a4 :: none :: b :: L) 6 v = a0 :: a1 :: a2 :: a3 :: a4 :: none :: some v :: L) ∧
  (∀ (a0 a1 a2 a3 a4 : Option Value)  (b c : Option Value) (L : xL) (v : Value), xst2 (a0 :: a1 :: a2 :: a3 :: a4 :: none :: b :: c :: L) 6 v = a0 :: a1 :: a2 :: a3 :: a4 :: none :: some v :: none :: L) ∧
  (∀ (a0 a1 a2 a3 a4 : Option Value) (y : Int32) (b : Option Value) (L : xL) (v : Value), xst1 (a0 :: a1 :: a2 :: a3 :: a4 :: some (.int y) :: b :: L) 6 v = a0 :: a1 :: a2 :: a3 :: a4 :: some (.int y) :: some v :: L) ∧
  (∀ (a0 a1 a2 a3 a4 : Option Value) (y : Int32) (b c : Option Value) (L : xL) (v : Value), xst2 (a0 :: a1 :: a2 :: a3 :: a4 :: some (.int y) :: b :: c :: L) 6 v = a0 :: a1 :: a2 :: a3 :: a4 :: some (.int y) :: some v :: none :: L) ∧
  (∀ (a0 a1 a2 a3 a4 : Option Value) (y : Nat) (b : Option Value) (L : xL) (v : Value), xst1 (a0 :: a1 :: a2 :: a3 :: a4 :: some (.ref y) :: b :: L) 6 v = a0 :: a1 :: a2 :: a3 :: a4 :: some (.ref y) :: some v :: L) ∧
  (∀ (a0 a1 a2 a3 a4 : Option Value) (y : Nat) (b c : Option Value) (L : xL) (v : Value), xst2 (a0 :: a1 :: a2 :: a3 :: a4 :: some (.ref y) :: b :: c :: L) 6 v = a0 :: a1 :: a2 :: a3 :: a4 :: some (.ref y) :: some v :: none :: L) ∧
  (∀ (a0 a1 a2 a3 a4 : Option Value)  (y : Int64) (b : Option Value) (L : xL) (v : Value), xst1 (a0 :: a1 :: a2 :: a3 :: a4 :: some (.long y) :: b :: L) 6 v = a0 :: a1 :: a2 :: a3 :: a4 :: none :: some v :: L) ∧
  (∀ (a0 a1 a2 a3 a4 a5 : Option Value)  (b : Option Value) (L : xL) (v : Value), xst1 (a0 :: a1 :: a2 :: a3 :: a4 :: a5 :: none :: b :: L) 7 v = a0 :: a1 :: a2 :: a3 :: a4 :: a5 :: none :: some v :: L) ∧
  (∀ (a0 a1 a2 a3 a4 a5 : Option Value)  (b c : Option Value) (L : xL) (v : Value), xst2 (a0 :: a1 :: a2 :: a3 :: a4 :: a5 :: none :: b :: c :: L) 7 v = a0 :: a1 :: a2 :: a3 :: a4 :: a5 :: none :: some v :: none :: L) ∧
  (∀ (a0 a1 a2 a3 a4 a5 : Option Value) (y : Int32) (b : Option Value) (L : xL) (v : Value), xst1 (a0 :: a1 :: a2 :: a3 :: a4 :: a5 :: some (.int y) :: b :: L) 7 v = a0 :: a1 :: a2 :: a3 :: a4 :: a5 :: some (.int y) :: some v :: L) ∧
  (∀ (a0 a1 a2 a3 a4 a5 : Option Value) (y : Int32) (b c : Option Value) (L : xL) (v : Value), xst2 (a0 :: a1 :: a2 :: a3 :: a4 :: a5 :: some (.int y) :: b :: c :: L) 7 v = a0 :: a1 :: a2 :: a3 :: a4 :: a5 :: some (.int y) :: some v :: none :: L) ∧
  (∀ (a0 a1 a2 a3 a4 a5 : Option Value) (y : Nat) (b : Option Value) (L : xL) (v : Value), xst1 (a0 :: a1 :: a2 :: a3 :: a4 :: a5 :: some (.ref y) :: b :: L) 7 v = a0 :: a1 :: a2 :: a3 :: a4 :: a5 :: some (.ref y) :: some v :: L) ∧
  (∀ (a0 a1 a2 a3 a4 a5 : Option Value) (y : Nat) (b c : Option Value) (L : xL) (v : Value), xst2 (a0 :: a1 :: a2 :: a3 :: a4 :: a5 :: some (.ref y) :: b :: c :: L) 7 v = a0 :: a1 :: a2 :: a3 :: a4 :: a5 :: some (.ref y) :: some v :: none :: L) ∧
  (∀ (a0 a1 a2 a3 a4 a5 : Option Value)  (y : Int64) (b : Option Value) (L : xL) (v : Value), xst1 (a0 :: a1 :: a2 :: a3 :: a4 :: a5 :: some (.long y) :: b :: L) 7 v = a0 :: a1 :: a2 :: a3 :: a4 :: a5 :: none :: some v :: L) ∧
  (∀ (a0 a1 a2 a3 a4 a5 a6 : Option Value)  (b : Option Value) (L : xL) (v : Value), xst1 (a0 :: a1 :: a2 :: a3 :: a4 :: a5 :: a6 :: none :: b :: L) 8 v = a0 :: a1 :: a2 :: a3 :: a4 :: a5 :: a6 :: none :: some v :: L) ∧
  (∀ (a0 a1 a2 a3 a4 a5 a6 : Option Value) (y : Int32) (b : Option Value) (L : xL) (v : Value), xst1 (a0 :: a1 :: a2 :: a3 :: a4 :: a5 :: a6 :: some (.int y) :: b :: L) 8 v = a0 :: a1 :: a2 :: a3 :: a4 :: a5 :: a6 :: some (.int y) :: some v :: L) ∧
  (∀ (a0 a1 a2 a3 a4 a5 a6 : Option Value) (y : Nat) (b : Option Value) (L : xL) (v : Value), xst1 (a0 :: a1 :: a2 :: a3 :: a4 :: a5 :: a6 :: some (.ref y) :: b :: L) 8 v = a0 :: a1 :: a2 :: a3 :: a4 :: a5 :: a6 :: some (.ref y) :: some v :: L) ∧
  (∀ (a0 a1 a2 a3 a4 a5 a6 a7 : Option Value)  (b : Option Value) (L : xL) (v : Value), xst1 (a0 :: a1 :: a2 :: a3 :: a4 :: a5 :: a6 :: a7 :: none :: b :: L) 9 v = a0 :: a1 :: a2 :: a3 :: a4 :: a5 :: a6 :: a7 :: none :: some v :: L) ∧
  (∀ (a0 a1 a2 a3 a4 a5 a6 a7 : Option Value) (y : Int32) (b : Option Value) (L : xL) (v : Value), xst1 (a0 :: a1 :: a2 :: a3 :: a4 :: a5 :: a6 :: a7 :: some (.int y) :: b :: L) 9 v = a0 :: a1 :: a2 :: a3 :: a4 :: a5 :: a6 :: a7 :: some (.int y) :: some v :: L) ∧
  (∀ (a0 a1 a2 a3 a4 a5 a6 a7 : Option Value) (y : Nat) (b : Option Value) (L : xL) (v : Value), xst1 (a0 :: a1 :: a2 :: a3 :: a4 :: a5 :: a6 :: a7 :: some (.ref y) :: b :: L) 9 v = a0 :: a1 :: a2 :: a3 :: a4 :: a5 :: a6 :: a7 :: some (.ref y) :: some v :: L) ∧
  (∀ (a0 a1 a2 a3 a4 a5 a6 a7 a8 : Option Value)  (b : Option Value) (L : xL) (v : Value), xst1 (a0 :: a1 :: a2 :: a3 :: a4 :: a5 :: a6 :: a7 :: a8 :: none :: b :: L) 10 v = a0 :: a1 :: a2 :: a3 :: a4 :: a5 :: a6 :: a7 :: a8 :: none :: some v :: L) ∧
  (∀ (a0 a1 a2 a3 a4 a5 a6 a7 a8 : Option Value) (y : Int32) (b : Option Value) (L : xL) (v : Value), xst1 (a0 :: a1 :: a2 :: a3 :: a4 :: a5 :: a6 :: a7 :: a8 :: some (.int y) :: b :: L) 10 v = a0 :: a1 :: a2 :: a3 :: a4 :: a5 :: a6 :: a7 :: a8 :: some (.int y) :: some v :: L) ∧
  (∀ (a0 a1 a2 a3 a4 a5 a6 a7 a8 : Option Value) (y : Nat) (b : Option Value) (L : xL) (v : Value), xst1 (a0 :: a1 :: a2 :: a3 :: a4 :: a5 :: a6 :: a7 :: a8 :: some (.ref y) :: b :: L) 10 v = a0 :: a1 :: a2 :: a3 :: a4 :: a5 :: a6 :: a7 :: a8 :: some (.ref y) :: some v :: L) ∧
  (∀ (a0 a1 a2 a3 a4 a5 a6 a7 a8 a9 : Option Value)  (b : Option Value) (L : xL) (v : Value), xst1 (a0 :: a1 :: a2 :: a3 :: a4 :: a5 :: a6 :: a7 :: a8 :: a9 :: none :: b :: L) 11 v = a0 :: a1 :: a2 :: a3 :: a4 :: a5 :: a6 :: a7 :: a8 :: a9 :: none :: some v :: L) ∧
  (∀ (a0 a1 a2 a3 a4 a5 a6 a7 a8 a9 : Option Value) (y : Int32) (b : Option Value) (L : xL) (v : Value), xst1 (a0 :: a1 :: a2 :: a3 :: a4 :: a5 :: a6 :: a7 :: a8 :: a9 :: some (.int y) :: b :: L) 11 v = a0 :: a1 :: a2 :: a3 :: a4 :: a5 :: a6 :: a7 :: a8 :: a9 :: some (.int y) :: some v :: L) ∧
  (∀ (a0 a1 a2 a3 a4 a5 a6 a7 a8 a9 : Option Value) (y : Nat) (b : Option Value) (L : xL) (v : Value), xst1 (a0 :: a1 :: a2 :: a3 :: a4 :: a5 :: a6 :: a7 :: a8 :: a9 :: some (.ref y) :: b :: L) 11 v = a0 :: a1 :: a2 :: a3 :: a4 :: a5 :: a6 :: a7 :: a8 :: a9 :: some (.ref y) :: some v :: L) ∧
  (∀ (a0 a1 a2 a3 a4 a5 a6 a7 a8 a9 a10 : Option Value)  (b : Option Value) (L : xL) (v : Value), xst1 (a0 :: a1 :: a2 :: a3 :: a4 :: a5 :: a6 :: a7 :: a8 :: a9 :: a10 :: none :: b :: L) 12 v = a0 :: a1 :: a2 :: a3 :: a4 :: a5 :: a6 :: a7 :: a8 :: a9 :: a10 :: none :: some v :: L) ∧
  (∀ (a0 a1 a2 a3 a4 a5 a6 a7 a8 a9 a10 : Option Value) (y : Int32) (b : Option Value) (L : xL) (v : Value), xst1 (a0 :: a1 :: a2 :: a3 :: a4 :: a5 :: a6 :: a7 :: a8 :: a9 :: a10 :: some (.int y) :: b :: L) 12 v = a0 :: a1 :: a2 :: a3 :: a4 :: a5 :: a6 :: a7 :: a8 :: a9 :: a10 :: some (.int y) :: some v :: L) ∧
  (∀ (a0 a1 a2 a3 a4 a5 a6 a7 a8 a9 a10 : Option Value) (y : Nat) (b : Option Value) (L : xL) (v : Value), xst1 (a0 :: a1 :: a2 :: a3 :: a4 :: a5 :: a6 :: a7 :: a8 :: a9 :: a10 :: some (.ref y) :: b :: L) 12 v = a0 :: a1 :: a2 :: a3 :: a4 :: a5 :: a6 :: a7 :: a8 :: a9 :: a10 :: some (.ref y) :: some v :: L) := by
  repeat' apply And.intro
  all_goals (intros; rfl)
set_option maxRecDepth 100000 in
set_option maxHeartbeats 4000000 in
theorem ops_eq : (∀ {σ : Type} (K : Kt σ) (pc : Nat) (S : σ) (L : xL) (r : List Value) (v : Int32) (len : Nat), O_int v len K pc L r S = K (pc + len) L (.int v :: r) S) ∧
  (∀ {σ : Type} (K : Kt σ) (pc : Nat) (S : σ) (L : xL) (r : List Value) (v : Int64) (len : Nat), O_long v len K pc L r S = K (pc + len) L (.long v :: r) S) ∧
  (∀ {σ : Type} (K : Kt σ) (pc : Nat) (S : σ) (L : xL) (r : List Value) (x : Int32) (len : Nat), O_iload 0 len K pc (some (.int x) :: L) r S = K (pc + len) (some (.int x) :: L) (.int x :: r) S) ∧
  (∀ {σ : Type} (K : Kt σ) (pc : Nat) (S : σ) (L : xL) (r : List Value) (x : Nat) (len : Nat), O_aload 0 len K pc (some (.ref x) :: L) r S = K (pc + len) (some (.ref x) :: L) (.ref x :: r) S) ∧
  (∀ {σ : Type} (K : Kt σ) (pc : Nat) (S : σ) (L : xL) (r : List Value) (x : Int64) (len : Nat), O_lload 0 len K pc (some (.long x) :: L) r S = K (pc + len) (some (.long x) :: L) (.long x :: r) S) ∧
  (∀ {σ : Type} (K : Kt σ) (pc : Nat) (S : σ) (L : xL) (r : List Value) (x v : Int32), O_iinc 0 v K pc (some (.int x) :: L) r S = K (pc + 3) (xst1 (some (.int x) :: L) 0 (.int (x + v))) r S) ∧
  (∀ {σ : Type} (K : Kt σ) (pc : Nat) (S : σ) (L : xL) (r : List Value) (a0 : Option Value) (x : Int32) (len : Nat), O_iload 1 len K pc (a0 :: some (.int x) :: L) r S = K (pc + len) (a0 :: some (.int x) :: L) (.int x :: r) S) ∧
  (∀ {σ : Type} (K : Kt σ) (pc : Nat) (S : σ) (L : xL) (r : List Value) (a0 : Option Value) (x : Nat) (len : Nat), O_aload 1 len K pc (a0 :: some (.ref x) :: L) r S = K (pc + len) (a0 :: some (.ref x) :: L) (.ref x :: r) S) ∧
  (∀ {σ : Type} (K : Kt σ) (pc : Nat) (S : σ) (L : xL) (r : List Value) (a0 : Option Value) (x : Int64) (len : Nat), O_lload 1 len K pc (a0 :: some (.long x) :: L) r S = K (pc + len) (a0 :: some (.long x) :: L) (.long x :: r) S) ∧
  (∀ {σ : Type} (K : Kt σ) (pc : Nat) (S : σ) (L : xL) (r : List Value) (a0 : Option Value) (x v : Int32), O_iinc 1 v K pc (a0 :: some (.int x) :: L) r S = K (pc + 3) (xst1 (a0 :: some (.int x) :: L) 1 (.int (x + v))) r S) ∧
  (∀ {σ : Type} (K : Kt σ) (pc : Nat) (S : σ) (L : xL) (r : List Value) (a0 a1 : Option Value) (x : Int32) (len : Nat), O_iload 2 len K pc (a0 :: a1 :: some (.int x) :: L) r S = K (pc + len) (a0 :: a1 :: some (.int x) :: L) (.int x :: r) S) ∧
  (∀ {σ : Type} (K : Kt σ) (pc : Nat) (S : σ) (L : xL) (r : List Value) (a0 a1 : Option Value) (x : Nat) (len : Nat), O_aload 2 len K pc (a0 :: a1 :: some (.ref x) :: L) r S = K (pc + len) (a0 :: a1 :: some (.ref x) :: L) (.ref x :: r) S) ∧
  (∀ {σ : Type} (K : Kt σ) (pc : Nat) (S : σ) (L : xL) (r : List Value) (a0 a1 : Option Value) (x : Int64) (len : Nat), O_lload 2 len K pc (a0 :: a1 :: some (.long x) :: L) r S = K (pc + len) (a0 :: a1 :: some (.long x) :: L) (.long x :: r) S) ∧
  (∀ {σ : Type} (K : Kt σ) (pc : Nat) (S : σ) (L : xL) (r : List Value) (a0 a1 : Option Value) (x v : Int32), O_iinc 2 v K pc (a0 :: a1 :: some (.int x) :: L) r S = K (pc + 3) (xst1 (a0 :: a1 :: some (.int x) :: L) 2 (.int (x + v))) r S) ∧
  (∀ {σ : Type} (K : Kt σ) (pc : Nat) (S : σ) (L : xL) (r : List Value) (a0 a1 a2 : Option Value) (x : Int32) (len : Nat), O_iload 3 len K pc (a0 :: a1 :: a2 :: some (.int x) :: L) r S = K (pc + len) (a0 :: a1 :: a2 :: some (.int x) :: L) (.int x :: r) S) ∧
  (∀ {σ : Type} (K : Kt σ) (pc : Nat) (S : σ) (L : xL) (r : List Value) (a0 a1 a2 : Option Value) (x : Nat) (len : Nat), O_aload 3 len K pc (a0 :: a1 :: a2 :: some (.ref x) :: L) r S = K (pc + len) (a0 :: a1 :: a2 :: some (.ref x) :: L) (.ref x :: r) S) ∧
  (∀ {σ : Type} (K : Kt σ) (pc : Nat) (S : σ) (L : xL) (r : List Value) (a0 a1 a2 : Option Value) (x : Int64) (len : Nat), O_lload 3 len K pc (a0 :: a1 :: a2 :: some (.long x) :: L) r S = K (pc + len) (a0 :: a1 :: a2 :: some (.long x) :: L) (.long x :: r) S) ∧
  (∀ {σ : Type} (K : Kt σ) (pc : Nat) (S : σ) (L : xL) (r : List Value) (a0 a1 a2 : Option Value) (x v : Int32), O_iinc 3 v K pc (a0 :: a1 :: a2 :: some (.int x) :: L) r S = K (pc + 3) (xst1 (a0 :: a1 :: a2 :: some (.int x) :: L) 3 (.int (x + v))) r S) ∧
  (∀ {σ : Type} (K : Kt σ) (pc : Nat) (S : σ) (L : xL) (r : List Value) (a0 a1 a2 a3 : Option Value) (x : Int32) (len : Nat), O_iload 4 len K pc (a0 :: a1 :: a2 :: a3 :: some (.int x) :: L) r S = K (pc + len) (a0 :: a1 :: a2 :: a3 :: some (.int x) :: L) (.int x :: r) S) ∧
  (∀ {σ : Type} (K : Kt σ) (pc : Nat) (S : σ) (L : xL) (r : List Value) (a0 a1 a2 a3 : Option Value) (x : Nat) (len : Nat), O_aload 4 len K pc (a0 :: a1 :: a2 :: a3 :: some (.ref x) :: L) r S = K (pc + len) (a0 :: a1 :: a2 :: a3 :: some (.ref x) :: L) (.ref x :: r) S) ∧
  (∀ {σ : Type} (K : Kt σ) (pc : Nat) (S : σ) (L : xL) (r : List Value) (a0 a1 a2 a3 : Option Value) (x : Int64) (len : Nat), O_lload 4 len K pc (a0 :: a1 :: a2 :: a3 :: some (.long x) :: L) r S = K (pc + len) (a0 :: a1 :: a2 :: a3 :: some (.long x) :: L) (.long x :: r) S) ∧
  (∀ {σ : Type} (K : Kt σ) (pc : Nat) (S : σ) (L : xL) (r : List Value) (a0 a1 a2 a3 : Option Value) (x v : Int32), O_iinc 4 v K pc (a0 :: a1 :: a2 :: a3 :: some (.int x) :: L) r S = K (pc + 3) (xst1 (a0 :: a1 :: a2 :: a3 :: some (.int x) :: L) 4 (.int (x + v))) r S) ∧
  (∀ {σ : Type} (K : Kt σ) (pc : Nat) (S : σ) (L : xL) (r : List Value) (a0 a1 a2 a3 a4 : Option Value) (x : Int32) (len : Nat), O_iload 5 len K pc (a0 :: a1 :: a2 :: a3 :: a4 :: some (.int x) :: L) r S = K (pc + len) (a0 :: a1 :: a2 :: a3 :: a4 :: some (.int x) :: L) (.int x :: r) S) ∧
  (∀ {σ : Type} (K : Kt σ) (pc : Nat) (S : σ) (L : xL) (r : List Value) (a0 a1 a2 a3 a4 : Option Value) (x : Nat) (len : Nat), O_aload 5 len K pc (a0 :: a1 :: a2 :: a3 :: a4 :: some (.ref x) :: L) r S = K (pc + len) (a0 :: a1 :: a2 :: a3 :: a4 :: some (.ref x) :: L) (.ref x :: r) S) ∧
  (∀ {σ : Type} (K : Kt σ) (pc : Nat) (S : σ) (L : xL) (r : List Value) (a0 a1 a2 a3 a4 : Option Value) (x : Int64) (len : Nat), O_lload 5 len K pc (a0 :: a1 :: a2 :: a3 :: a4 :: some (.long x) :: L) r S = K (pc + len) (a0 :: a1 :: a2 :: a3 :: a4 :: some (.long x) :: L) (.long x :: r) S) ∧
  (∀ {σ : Type} (K : Kt σ) (pc : Nat) (S : σ) (L : xL) (r : List Value) (a0 a1 a2 a3 a4 : Option Value) (x v : Int32), O_iinc 5 v K pc (a0 :: a1 :: a2 :: a3 :: a4 :: some (.int x) :: L) r S = K (pc + 3) (xst1 (a0 :: a1 :: a2 :: a3 :: a4 :: some (.int x) :: L) 5 (.int (x + v))) r S) ∧
  (∀ {σ : Type} (K : Kt σ) (pc : Nat) (S : σ) (L : xL) (r : List Value) (a0 a1 a2 a3 a4 a5 : Option Value) (x : Int32) (len : Nat), O_iload 6 len K pc (a0 :: a1 :: a2 :: a3 :: a4 :: a5 :: some (.int x) :: L) r S = K (pc + len) (a0 :: a1 :: a2 :: a3 :: a4 :: a5 :: some (.int x) :: L) (.int x :: r) S) ∧
  (∀ {σ : Type} (K : Kt σ) (pc : Nat) (S : σ) (L : xL) (r : List Value) (a0 a1 a2 a3 a4 a5 : Option Value) (x : Int64) (len : Nat), O_lload 6 len K pc (a0 :: a1 :: a2 :: a3 :: a4 :: a5 :: some (.long x) :: L) r S = K (pc + len) (a0 :: a1 :: a2 :: a3 :: a4 :: a5 :: some (.long x) :: L) (.long x :: r) S) ∧
  (∀ {σ : Type} (K : Kt σ) (pc : Nat) (S : σ) (L : xL) (r : List Value) (a0 a1 a2 a3 a4 a5 : Option Value) (x v : Int32), O_iinc 6 v K pc (a0 :: a1 :: a2 :: a3 :: a4 :: a5 :: some (.int x) :: L) r S = K (pc + 3) (xst1 (a0 :: a1 :: a2 :: a3 :: a4 :: a5 :: some (.int x) :: L) 6 (.int (x + v))) r S) ∧
  (∀ {σ : Type} (K : Kt σ) (pc : Nat) (S : σ) (L : xL) (r : List Value) (a0 a1 a2 a3 a4 a5 a6 : Option Value) (x : Int32) (len : Nat), O_iload 7 len K pc (a0 :: a1 :: a2 :: a3 :: a4 :: a5 :: a6 :: some (.int x) :: L) r S = K (pc + len) (a0 :: a1 :: a2 :: a3 :: a4 :: a5 :: a6 :: some (.int x) :: L) (.int x :: r) S) ∧
  (∀ {σ : Type} (K : Kt σ) (pc : Nat) (S : σ) (L : xL) (r : List Value) (a0 a1 a2 a3 a4 a5 a6 : Option Value) (x : Int64) (len : Nat), O_lload 7 len K pc (a0 :: a1 :: a2 :: a3 :: a4 :: a5 :: a6 :: some (.long x) :: L) r S = K (pc + len) (a0 :: a1 :: a2 :: a3 :: a4 :: a5 :: a6 :: some (.long x) :: L) (.long x :: r) S) ∧
  (∀ {σ : Type} (K : Kt σ) (pc : Nat) (S : σ) (L : xL) (r : List Value) (a0 a1 a2 a3 a4 a5 a6 : Option Value) (x v : Int32), O_iinc 7 v K pc (a0 :: a1 :: a2 :: a3 :: a4 :: a5 :: a6 :: some (.int x) :: L) r S = K (pc + 3) (xst1 (a0 :: a1 :: a2 :: a3 :: a4 :: a5 :: a6 :: some (.int x) :: L) 7 (.int (x + v))) r S) ∧
  (∀ {σ : Type} (K : Kt σ) (pc : Nat) (S : σ) (L : xL) (r : List Value) (a0 a1 a2 a3 a4 a5 a6 a7 : Option Value) (x : Int32) (len : Nat), O_iload 8 len K pc (a0 :: a1 :: a2 :: a3 :: a4 :: a5 :: a6 :: a7 :: some (.int x) :: L) r S = K (pc + len) (a0 :: a1 :: a2 :: a3 :: a4 :: a5 :: a6 :: a7 :: some (.int x) :: L) (.int x :: r) S) ∧
  (∀ {σ : Type} (K : Kt σ) (pc : Nat) (S : σ) (L : xL) (r : List Value) (a0 a1 a2 a3 a4 a5 a6 a7 : Option Value) (x v : Int32), O_iinc 8 v K pc (a0 :: a1 :: a2 :: a3 :: a4 :: a5 :: a6 :: a7 :: some (.int x) :: L) r S = K (pc + 3) (xst1 (a0 :: a1 :: a2 :: a3 :: a4 :: a5 :: a6 :: a7 :: some (.int x) :: L) 8 (.int (x + v))) r S) ∧
  (∀ {σ : Type} (K : Kt σ) (pc : Nat) (S : σ) (L : xL) (r : List Value) (a0 a1 a2 a3 a4 a5 a6 a7 a8 : Option Value) (x : Int32) (len : Nat), O_iload 9 len K pc (a0 :: a1 :: a2 :: a3 :: a4 :: a5 :: a6 :: a7 :: a8 :: some (.int x) :: L) r S = K (pc + len) (a0 :: a1 :: a2 :: a3 :: a4 :: a5 :: a6 :: a7 :: a8 :: some (.int x) :: L) (.int x :: r) S) ∧
  (∀ {σ : Type} (K : Kt σ) (pc : Nat) (S : σ) (L : xL) (r : List Value) (a0 a1 a2 a3 a4 a5 a6 a7 a8 : Option Value) (x v : Int32), O_iinc 9 v K pc (a0 :: a1 :: a2 :: a3 :: a4 :: a5 :: a6 :: a7 :: a8 :: some (.int x) :: L) r S = K (pc + 3) (xst1 (a0 :: a1 :: a2 :: a3 :: a4 :: a5 :: a6 :: a7 :: a8 :: some (.int x) :: L) 9 (.int (x + v))) r S) ∧
  (∀ {σ : Type} (K : Kt σ) (pc : Nat) (S : σ) (L : xL) (r : List Value) (a0 a1 a2 a3 a4 a5 a6 a7 a8 a9 : Option Value) (x : Int32) (len : Nat), O_iload 10 len K pc (a0 :: a1 :: a2 :: a3 :: a4 :: a5 :: a6 :: a7 :: a8 :: a9 :: some (.int x) :: L) r S = K (pc + len) (a0 :: a1 :: a2 :: a3 :: a4 :: a5 :: a6 :: a7 :: a8 :: a9 :: some (.int x) :: L) (.int x :: r) S) ∧
  (∀ {σ : Type} (K : Kt σ) (pc : Nat) (S : σ) (L : xL) (r : List Value) (a0 a1 a2 a3 a4 a5 a6 a7 a8 a9 : Option Value) (x v : Int32), O_iinc 10 v K pc (a0 :: a1 :: a2 :: a3 :: a4 :: a5 :: a6 :: a7 :: a8 :: a9 :: some (.int x) :: L) r S = K (pc + 3) (xst1 (a0 :: a1 :: a2 :: a3 :: a4 :: a5 :: a6 :: a7 :: a8 :: a9 :: some (.int x) :: L) 10 (.int (x + v))) r S) ∧
  (∀ {σ : Type} (K : Kt σ) (pc : Nat) (S : σ) (L : xL) (r : List Value) (a0 a1 a2 a3 a4 a5 a6 a7 a8 a9 a10 : Option Value) (x : Int32) (len : Nat), O_iload 11 len K pc (a0 :: a1 :: a2 :: a3 :: a4 :: a5 :: a6 :: a7 :: a8 :: a9 :: a10 :: some (.int x) :: L) r S = K (pc + len) (a0 :: a1 :: a2 :: a3 :: a4 :: a5 :: a6 :: a7 :: a8 :: a9 :: a10 :: some (.int x) :: L) (.int x :: r) S) ∧
  (∀ {σ : Type} (K : Kt σ) (pc : Nat) (S : σ) (L : xL) (r : List Value) (a0 a1 a2 a3 a4 a5 a6 a7 a8 a9 a10 : Option Value) (x v : Int32), O_iinc 11 v K pc (a0 :: a1 :: a2 :: a3 :: a4 :: a5 :: a6 :: a7 :: a8 :: a9 :: a10 :: some (.int x) :: L) r S = K (pc + 3) (xst1 (a0 :: a1 :: a2 :: a3 :: a4 :: a5 :: a6 :: a7 :: a8 :: a9 :: a10 :: some (.int x) :: L) 11 (.int (x + v))) r S) ∧
  (∀ {σ : Type} (K : Kt σ) (pc : Nat) (S : σ) (L : xL) (r : List Value) (a0 a1 a2 a3 a4 a5 a6 a7 a8 a9 a10 a11 : Option Value) (x : Int32) (len : Nat), O_iload 12 len K pc (a0 :: a1 :: a2 :: a3 :: a4 :: a5 :: a6 :: a7 :: a8 :: a9 :: a10 :: a11 :: some (.int x) :: L) r S = K (pc + len) (a0 :: a1 :: a2 :: a3 :: a4 :: a5 :: a6 :: a7 :: a8 :: a9 :: a10 :: a11 :: some (.int x) :: L) (.int x :: r) S) ∧
  (∀ {σ : Type} (K : Kt σ) (pc : Nat) (S : σ) (L : xL) (r : List Value) (a0 a1 a2 a3 a4 a5 a6 a7 a8 a9 a10 a11 : Option Value) (x v : Int32), O_iinc 12 v K pc (a0 :: a1 :: a2 :: a3 :: a4 :: a5 :: a6 :: a7 :: a8 :: a9 :: a10 :: a11 :: some (.int x) :: L) r S = K (pc + 3) (xst1 (a0 :: a1 :: a2 :: a3 :: a4 :: a5 :: a6 :: a7 :: a8 :: a9 :: a10 :: a11 :: some (.int x) :: L) 12 (.int (x + v))) r S) ∧
  (∀ {σ : Type} (K : Kt σ) (pc : Nat) (S : σ) (L : xL) (r : List Value) (x : Int32) (i len : Nat), O_istore i len K pc L (.int x :: r) S = K (pc + len) (xst1 L i (.int x)) r S) ∧
  (∀ {σ : Type} (K : Kt σ) (pc : Nat) (S : σ) (L : xL) (r : List Value) (x : Nat) (i len : Nat), O_astore i len K pc L (.ref x :: r) S = K (pc + len) (xst1 L i (.ref x)) r S) ∧
  (∀ {σ : Type} (K : Kt σ) (pc : Nat) (S : σ) (L : xL) (r : List Value) (x : Int64) (i len : Nat), O_lstore i len K pc L (.long x :: r) S = K (pc + len) (xst2 L i (.long x)) r S) ∧
  (∀ {σ : Type} (K : Kt σ) (pc : Nat) (S : σ) (L : xL) (r : List Value) (x : Int32), O_dup K pc L (.int x :: r) S = K (pc + 1) L (.int x :: .int x :: r) S) ∧
  (∀ {σ : Type} (K : Kt σ) (pc : Nat) (S : σ) (L : xL) (r : List Value) (x : Nat), O_dup K pc L (.ref x :: r) S = K (pc + 1) L (.ref x :: .ref x :: r) S) ∧
  (∀ {σ : Type} (K : Kt σ) (pc : Nat) (S : σ) (L : xL) (r : List Value) (x : Int32) (y : Nat), O_dup2 K pc L (.int x :: .ref y :: r) S = K (pc + 1) L (.int x :: .ref y :: .int x :: .ref y :: r) S) ∧
  (∀ {σ : Type} (K : Kt σ) (pc : Nat) (S : σ) (L : xL) (r : List Value) (x : Int32), O_pop K pc L (.int x :: r) S = K (pc + 1) L r S) ∧
  (∀ {σ : Type} (K : Kt σ) (pc : Nat) (S : σ) (L : xL) (r : List Value) (t : Nat), O_goto t K pc L r S = K t L r S) ∧
  (∀ {σ : Type} (K : Kt σ) (pc : Nat) (S : σ) (L : xL) (r : List Value) (t x : Nat), O_ifnonnull t K pc L (.ref x :: r) S = K t L r S) ∧
  (∀ {σ : Type} (K : Kt σ) (pc : Nat) (S : σ) (L : xL) (r : List Value) (x : Nat), O_ifnull K pc L (.ref x :: r) S = K (pc + 3) L r S) ∧
  (∀ {σ : Type} (K : Kt σ) (pc : Nat) (S : σ) (L : xL) (r : List Value) (x : Int32), O_i2l K pc L (.int x :: r) S = K (pc + 1) L (.long x.toInt64 :: r) S) ∧
  (∀ {σ : Type} (K : Kt σ) (pc : Nat) (S : σ) (L : xL) (r : List Value) (x : Int64), O_l2i K pc L (.long x :: r) S = K (pc + 1) L (.int x.toInt32 :: r) S) ∧
  (∀ {σ : Type} (K : Kt σ) (pc : Nat) (S : σ) (L : xL) (r : List Value) (x : Int32), O_i2c K pc L (.int x :: r) S = K (pc + 1) L (.int (x.toUInt32 % 65536).toInt32 :: r) S) ∧
  (∀ {σ : Type} (K : Kt σ) (pc : Nat) (S : σ) (L : xL) (r : List Value) (x : Int32), O_ineg K pc L (.int x :: r) S = K (pc + 1) L (.int (-x) :: r) S) ∧
  (∀ {σ : Type} (K : Kt σ) (pc : Nat) (S : σ) (L : xL) (r : List Value) (x y : Int64), O_lcmp K pc L (.long y :: .long x :: r) S = K (pc + 1) L (.int (lg_cmp x y) :: r) S) ∧
  (∀ {σ : Type} (K : Kt σ) (pc : Nat) (S : σ) (L : xL) (r : List Value) (x y : Int32), O_iadd K pc L (.int y :: .int x :: r) S = K (pc + 1) L (.int (x + y) :: r) S) ∧
  (∀ {σ : Type} (K : Kt σ) (pc : Nat) (S : σ) (L : xL) (r : List Value) (x y : Int32), O_isub K pc L (.int y :: .int x :: r) S = K (pc + 1) L (.int (x - y) :: r) S) ∧
  (∀ {σ : Type} (K : Kt σ) (pc : Nat) (S : σ) (L : xL) (r : List Value) (x y : Int32), O_imul K pc L (.int y :: .int x :: r) S = K (pc + 1) L (.int (x * y) :: r) S) ∧
  (∀ {σ : Type} (K : Kt σ) (pc : Nat) (S : σ) (L : xL) (r : List Value) (x y : Int32), O_iand K pc L (.int y :: .int x :: r) S = K (pc + 1) L (.int (x &&& y) :: r) S) ∧
  (∀ {σ : Type} (K : Kt σ) (pc : Nat) (S : σ) (L : xL) (r : List Value) (x y : Int32), O_ior K pc L (.int y :: .int x :: r) S = K (pc + 1) L (.int (x ||| y) :: r) S) ∧
  (∀ {σ : Type} (K : Kt σ) (pc : Nat) (S : σ) (L : xL) (r : List Value) (x y : Int64), O_ladd K pc L (.long y :: .long x :: r) S = K (pc + 1) L (.long (x + y) :: r) S) ∧
  (∀ {σ : Type} (K : Kt σ) (pc : Nat) (S : σ) (L : xL) (r : List Value) (x y : Int64), O_lsub K pc L (.long y :: .long x :: r) S = K (pc + 1) L (.long (x - y) :: r) S) ∧
  (∀ {σ : Type} (K : Kt σ) (pc : Nat) (S : σ) (L : xL) (r : List Value) (x y : Int64), O_lmul K pc L (.long y :: .long x :: r) S = K (pc + 1) L (.long (x * y) :: r) S) ∧
  (∀ {σ : Type} (K : Kt σ) (pc : Nat) (S : σ) (L : xL) (r : List Value) (x y : Int32), O_ishl K pc L (.int y :: .int x :: r) S = K (pc + 1) L (.int (x <<< (y &&& 31)) :: r) S) ∧
  (∀ {σ : Type} (K : Kt σ) (pc : Nat) (S : σ) (L : xL) (r : List Value) (x y : Int32), O_ishr K pc L (.int y :: .int x :: r) S = K (pc + 1) L (.int (x >>> (y &&& 31)) :: r) S) ∧
  (∀ {σ : Type} (K : Kt σ) (pc : Nat) (S : σ) (L : xL) (r : List Value) (x y : Int32), O_idiv K pc L (.int y :: .int x :: r) S = (¬ y = 0 ∧ K (pc + 1) L (.int (x / y) :: r) S)) ∧
  (∀ {σ : Type} (K : Kt σ) (pc : Nat) (S : σ) (L : xL) (r : List Value) (x y : Int32), O_irem K pc L (.int y :: .int x :: r) S = (¬ y = 0 ∧ K (pc + 1) L (.int (x - x / y * y) :: r) S)) ∧
  (∀ {σ : Type} (K : Kt σ) (pc : Nat) (S : σ) (L : xL) (r : List Value) (x y : Int64), O_ldiv K pc L (.long y :: .long x :: r) S = (¬ y = 0 ∧ K (pc + 1) L (.long (x / y) :: r) S)) ∧
  (∀ {σ : Type} (K : Kt σ) (pc : Nat) (S : σ) (L : xL) (r : List Value) (x y : Int32) (t : Nat), O_icmp_eq t K pc L (.int y :: .int x :: r) S = ((x = y → K t L r S) ∧ (¬ x = y → K (pc + 3) L r S))) ∧
  (∀ {σ : Type} (K : Kt σ) (pc : Nat) (S : σ) (L : xL) (r : List Value) (x : Int32) (t : Nat), O_if_eq t K pc L (.int x :: r) S = ((x = 0 → K t L r S) ∧ (¬ x = 0 → K (pc + 3) L r S))) ∧
  (∀ {σ : Type} (K : Kt σ) (pc : Nat) (S : σ) (L : xL) (r : List Value) (x y : Int32) (t : Nat), O_icmp_ne t K pc L (.int y :: .int x :: r) S = ((¬ x = y → K t L r S) ∧ (x = y → K (pc + 3) L r S))) ∧
  (∀ {σ : Type} (K : Kt σ) (pc : Nat) (S : σ) (L : xL) (r : List Value) (x : Int32) (t : Nat), O_if_ne t K pc L (.int x :: r) S = ((¬ x = 0 → K t L r S) ∧ (x = 0 → K (pc + 3) L r S))) ∧
  (∀ {σ : Type} (K : Kt σ) (pc : Nat) (S : σ) (L : xL) (r : List Value) (x y : Int32) (t : Nat), O_icmp_lt t K pc L (.int y :: .int x :: r) S = ((x < y → K t L r S) ∧ (¬ x < y → K (pc + 3) L r S))) ∧
  (∀ {σ : Type} (K : Kt σ) (pc : Nat) (S : σ) (L : xL) (r : List Value) (x : Int32) (t : Nat), O_if_lt t K pc L (.int x :: r) S = ((x < 0 → K t L r S) ∧ (¬ x < 0 → K (pc + 3) L r S))) ∧
  (∀ {σ : Type} (K : Kt σ) (pc : Nat) (S : σ) (L : xL) (r : List Value) (x y : Int32) (t : Nat), O_icmp_ge t K pc L (.int y :: .int x :: r) S = ((¬ x < y → K t L r S) ∧ (x < y → K (pc + 3) L r S))) ∧
  (∀ {σ : Type} (K : Kt σ) (pc : Nat) (S : σ) (L : xL) (r : List Value) (x : Int32) (t : Nat), O_if_ge t K pc L (.int x :: r) S = ((¬ x < 0 → K t L r S) ∧ (x < 0 → K (pc + 3) L r S))) ∧
  (∀ {σ : Type} (K : Kt σ) (pc : Nat) (S : σ) (L : xL) (r : List Value) (x y : Int32) (t : Nat), O_icmp_gt t K pc L (.int y :: .int x :: r) S = ((y < x → K t L r S) ∧ (¬ y < x → K (pc + 3) L r S))) ∧
  (∀ {σ : Type} (K : Kt σ) (pc : Nat) (S : σ) (L : xL) (r : List Value) (x : Int32) (t : Nat), O_if_gt t K pc L (.int x :: r) S = ((0 < x → K t L r S) ∧ (¬ 0 < x → K (pc + 3) L r S))) ∧
  (∀ {σ : Type} (K : Kt σ) (pc : Nat) (S : σ) (L : xL) (r : List Value) (x y : Int32) (t : Nat), O_icmp_le t K pc L (.int y :: .int x :: r) S = ((¬ y < x → K t L r S) ∧ (y < x → K (pc + 3) L r S))) ∧
  (∀ {σ : Type} (K : Kt σ) (pc : Nat) (S : σ) (L : xL) (r : List Value) (x : Int32) (t : Nat), O_if_le t K pc L (.int x :: r) S = ((¬ 0 < x → K t L r S) ∧ (0 < x → K (pc + 3) L r S))) ∧
  (∀ {σ : Type} (K : Kt σ) (pc : Nat) (S : σ) (L : xL) (r : List Value) (x : Int32) (cs : List (Int32 × Nat)) (dt : Nat), O_switch cs dt K pc L (.int x :: r) S = tsw K dt L r S x cs) ∧
  (∀ {σ : Type} (K : Kt σ) (S : σ) (L : xL) (r : List Value) (x : Int32) (dt : Nat), tsw K dt L r S x [] = K dt L r S) ∧
  (∀ {σ : Type} (K : Kt σ) (S : σ) (L : xL) (r : List Value) (x c : Int32) (t dt : Nat) (u : List (Int32 × Nat)), tsw K dt L r S x ((c, t) :: u) = ((x = c → K t L r S) ∧ (¬ x = c → tsw K dt L r S x u))) ∧
  (∀ {σ : Type} (K : Kt σ) (pc : Nat) (S : σ) (L : xL) (r : List Value) (toW : σ → xW) (ci slot id : Nat), O_getf toW ci slot K pc L (.ref id :: r) S = oK (getF (toW S) ci id slot) (fun v => K (pc + 3) L (v :: r) S)) ∧
  (∀ {σ : Type} (K : Kt σ) (pc : Nat) (S : σ) (L : xL) (r : List Value) (pf : σ → Nat → Int32 → Option σ) (id : Nat) (x : Int32), O_puti pf K pc L (.int x :: .ref id :: r) S = oK (pf S id x) (fun S' => K (pc + 3) L r S')) ∧
  (∀ {σ : Type} (K : Kt σ) (pc : Nat) (S : σ) (L : xL) (r : List Value) (pf : σ → Nat → Int32 → Option σ) (ty : FieldType) (id : Nat) (x : Int32), O_putn ty pf K pc L (.int x :: .ref id :: r) S = ((narrow ty (.int x) = .int x ∧ fits ty (.int x) = true) ∧ oK (pf S id x) (fun S' => K (pc + 3) L r S'))) ∧
  (∀ {σ : Type} (K : Kt σ) (pc : Nat) (S : σ) (L : xL) (r : List Value) (toW : σ → xW) (tag id : Nat) (i : Int32), O_ald toW tag K pc L (.int i :: .ref id :: r) S = oA (getA (toW S) id) (fun t n f => t = tag ∧ vp_in i n ∧ K (pc + 1) L (.int (f i.toNatClampNeg) :: r) S)) ∧
  (∀ {σ : Type} (K : Kt σ) (pc : Nat) (S : σ) (L : xL) (r : List Value) (toW : σ → xW) (sa : σ → Nat → (Nat → Int32) → Option σ) (tag id : Nat) (i x : Int32), O_ast toW tag sa K pc L (.int x :: .int i :: .ref id :: r) S = oA (getA (toW S) id) (fun t n f => t = tag ∧ vp_in i n ∧ oK (sa S id (upd f i.toNatClampNeg (xnar tag x))) (fun S' => K (pc + 1) L r S'))) ∧
  (∀ (x : Int32), xnar 0 x = x) ∧
  (∀ (x : Int32), xnar 1 x = vp_nar .boolean x) ∧
  (∀ (x : Int32), xnar 2 x = vp_nar .char x) ∧
  (∀ {σ : Type} (K : Kt σ) (pc : Nat) (S : σ) (L : xL) (r : List Value) (toW : σ → xW) (id : Nat) (i : Int32), O_aald toW K pc L (.int i :: .ref id :: r) S = oR (getR (toW S) id) (fun n f => vp_in i n ∧ oK (f i.toNatClampNeg) (fun k => K (pc + 1) L (.ref k :: r) S))) ∧
  (∀ {σ : Type} (K : Kt σ) (pc : Nat) (S : σ) (L : xL) (r : List Value) (toW : σ → xW) (sa : σ → Nat → (Nat → Option Nat) → Option σ) (v id : Nat) (i : Int32), O_aast toW sa K pc L (.ref v :: .int i :: .ref id :: r) S = oR (getR (toW S) id) (fun n f => vp_in i n ∧ (∃ fs, (toW S)[v]? = some (.inr (.inl (4, fs)))) ∧ oK (sa S id (va_up f i.toNatClampNeg (some v))) (fun S' => K (pc + 1) L r S'))) ∧
  (∀ {σ : Type} (K : Kt σ) (pc : Nat) (S : σ) (L : xL) (r : List Value) (x y : Int32), O_min K pc L (.int y :: .int x :: r) S = (r.length ≤ 4 ∧ K (pc + 3) L (.int (if y < x then y else x) :: r) S)) ∧
  (∀ {σ : Type} (K : Kt σ) (pc : Nat) (S : σ) (L : xL) (r : List Value) (x y : Int32), O_max K pc L (.int y :: .int x :: r) S = (r.length ≤ 4 ∧ K (pc + 3) L (.int (if x < y then y else x) :: r) S)) ∧
  (∀ {σ : Type} (K : Kt σ) (pc : Nat) (S : σ) (L : xL) (x : Int32), O_iret K pc L [.int x] S = K 100000 [] [.int x] S) ∧
  (∀ {σ : Type} (K : Kt σ) (pc : Nat) (S : σ) (L : xL) (x : Int32), O_zret K pc L [.int x] S = (narrow .boolean (.int x) = .int x ∧ K 100000 [] [.int x] S)) ∧
  (∀ {σ : Type} (K : Kt σ) (pc : Nat) (S : σ) (L : xL), O_vret K pc L [] S = K 100000 [] [] S) := by
  repeat' apply And.intro
  all_goals first | (intros; rfl) | (intros; simp only [O_getf, O_puti, O_putn, O_ald, O_ast, O_aald, O_aast, O_acopy, oK, oA, oR]; repeat' split) <;> first | rfl | simp_all
set_option maxRecDepth 100000 in
theorem call_eq : (∀ {σ τ : Type} (K : Kt σ) (pc : Nat) (S : σ) (L : xL) (r : List Value) (b k : Nat) (g : σ → τ) (f : σ → τ → σ) (sp : Sp τ), O_callV 0 b g f sp K pc L (.ref k :: r) S = (k = b ∧ r.length ≤ 4 ∧ sp [.ref 0] (g S) (fun v P' => K (pc + 3) L (v.toList ++ r) (f S P')))) ∧
  (∀ {σ τ : Type} (K : Kt σ) (pc : Nat) (S : σ) (L : xL) (r : List Value) (b k : Nat) (g : σ → τ) (f : σ → τ → σ) (sp : Sp τ) (x0 : Int32), O_callV 1 b g f sp K pc L (.int x0 :: .ref k :: r) S = (k = b ∧ r.length ≤ 4 ∧ sp [.ref 0, .int x0] (g S) (fun v P' => K (pc + 3) L (v.toList ++ r) (f S P')))) ∧
  (∀ {σ τ : Type} (K : Kt σ) (pc : Nat) (S : σ) (L : xL) (r : List Value) (b k : Nat) (g : σ → τ) (f : σ → τ → σ) (sp : Sp τ) (x0 x1 : Int32), O_callV 2 b g f sp K pc L (.int x1 :: .int x0 :: .ref k :: r) S = (k = b ∧ r.length ≤ 4 ∧ sp [.ref 0, .int x0, .int x1] (g S) (fun v P' => K (pc + 3) L (v.toList ++ r) (f S P')))) ∧
  (∀ {σ τ : Type} (K : Kt σ) (pc : Nat) (S : σ) (L : xL) (r : List Value) (b k : Nat) (g : σ → τ) (f : σ → τ → σ) (sp : Sp τ) (x0 x1 x2 : Int32), O_callV 3 b g f sp K pc L (.int x2 :: .int x1 :: .int x0 :: .ref k :: r) S = (k = b ∧ r.length ≤ 4 ∧ sp [.ref 0, .int x0, .int x1, .int x2] (g S) (fun v P' => K (pc + 3) L (v.toList ++ r) (f S P')))) ∧
  (∀ {σ τ : Type} (K : Kt σ) (pc : Nat) (S : σ) (L : xL) (r : List Value) (b k : Nat) (g : σ → τ) (f : σ → τ → σ) (sp : Sp τ) (x0 x1 x2 x3 : Int32), O_callV 4 b g f sp K pc L (.int x3 :: .int x2 :: .int x1 :: .int x0 :: .ref k :: r) S = (k = b ∧ r.length ≤ 4 ∧ sp [.ref 0, .int x0, .int x1, .int x2, .int x3] (g S) (fun v P' => K (pc + 3) L (v.toList ++ r) (f S P')))) ∧
  (∀ {σ : Type} (K : Kt σ) (pc : Nat) (S : σ) (L : xL) (r : List Value) (sp : Sp Unit) (x0 : Int32), O_callS 1 sp K pc L (.int x0 :: r) S = (r.length ≤ 4 ∧ sp [.int x0] () (fun v _ => K (pc + 3) L (v.toList ++ r) S))) ∧
  (∀ {σ : Type} (K : Kt σ) (pc : Nat) (S : σ) (L : xL) (r : List Value) (sp : Sp Unit) (x0 : Int64), O_callS 1 sp K pc L (.long x0 :: r) S = (r.length ≤ 4 ∧ sp [.long x0] () (fun v _ => K (pc + 3) L (v.toList ++ r) S))) ∧
  (∀ {σ : Type} (K : Kt σ) (pc : Nat) (S : σ) (L : xL) (r : List Value) (sp : Sp Unit) (x0 x1 : Int32), O_callS 2 sp K pc L (.int x1 :: .int x0 :: r) S = (r.length ≤ 4 ∧ sp [.int x0, .int x1] () (fun v _ => K (pc + 3) L (v.toList ++ r) S))) ∧
  (∀ {σ : Type} (K : Kt σ) (pc : Nat) (S : σ) (L : xL) (r : List Value) (sp : Sp Unit) (x0 x1 : Int64), O_callS 2 sp K pc L (.long x1 :: .long x0 :: r) S = (r.length ≤ 4 ∧ sp [.long x0, .long x1] () (fun v _ => K (pc + 3) L (v.toList ++ r) S))) ∧
  (∀ {σ : Type} (K : Kt σ) (pc : Nat) (S : σ) (L : xL) (r : List Value) (sp : Sp Unit) (x0 x1 x2 : Int32), O_callS 3 sp K pc L (.int x2 :: .int x1 :: .int x0 :: r) S = (r.length ≤ 4 ∧ sp [.int x0, .int x1, .int x2] () (fun v _ => K (pc + 3) L (v.toList ++ r) S))) ∧
  (∀ {σ : Type} (K : Kt σ) (pc : Nat) (S : σ) (L : xL) (r : List Value) (sp : Sp Unit) (x0 x1 x2 : Int64), O_callS 3 sp K pc L (.long x2 :: .long x1 :: .long x0 :: r) S = (r.length ≤ 4 ∧ sp [.long x0, .long x1, .long x2] () (fun v _ => K (pc + 3) L (v.toList ++ r) S))) ∧
  (∀ {σ : Type} (K : Kt σ) (pc : Nat) (S : σ) (L : xL) (r : List Value) (sp : Sp Unit) (x0 x1 : Int32), O_callS 2 sp K pc L (.int x1 :: .int x0 :: r) S = (r.length ≤ 4 ∧ sp [.int x0, .int x1] () (fun v _ => K (pc + 3) L (v.toList ++ r) S))) := by
  repeat' apply And.intro
  all_goals (intros; simp [O_callV, O_callS, xint])
theorem acopy_eq {σ : Type} (K : Kt σ) (pc : Nat) (S : σ) (L : xL) (r : List Value) (toW : σ → xW) (sa : σ → Nat → (Nat → Int32) → Option σ) (n dp sp : Int32) (a a0 : Nat) : O_acopy toW sa K pc L (.int n :: .int dp :: .ref a :: .int sp :: .ref a0 :: r) S = oA (getA (toW S) a0) (fun t0 n0 f => oA (getA (toW S) a) (fun t1 n1 _ => (t0 = t1 ∧ t1 < 3 ∧ n0 = n1 ∧ sp = 0 ∧ dp = 0 ∧ n.toNatClampNeg = n1 ∧ ¬ n < 0 ∧ r.length ≤ 4) ∧ (∀ i, i < n1 → fits (tagTy t1) (.int (f i)) = true) ∧ oK (sa S a f) (fun S' => K (pc + 3) L r S'))) := by
  unfold O_acopy oA oK
  dsimp only
  rcases getA (toW S) a0 with _ | ⟨t0, n0, f⟩
  · rfl
  · rcases getA (toW S) a with _ | ⟨t1, n1, g⟩
    · rfl
    · rfl
theorem xcr_0 (c : xCell) : xcr (fun i => 0 + i) c = c := by
  match c with
  | .inl a => rfl
  | .inr (.inl (ci, fs)) =>
    simp only [xcr]
    congr 3
    refine (List.map_congr_left fun v _ => ?_).trans (List.map_id fs)
    cases v <;> simp [xrn]
  | .inr (.inr (n, f)) =>
    simp only [xcr]
    congr 3
    funext j
    cases f j <;> simp
theorem ln_id {σ : Type} (toW : σ → xW) : Lens toW toW 0 (fun S => S) (fun _ S' => S') := by
  intro S P'
  have h : ∀ w : xW, w.map (xcr (fun i => 0 + i)) = w := fun w => (List.map_congr_left fun c _ => xcr_0 c).trans (List.map_id w)
  exact ⟨[], [], rfl, by rw [h, List.append_nil]; rfl, by rw [h, List.append_nil]; rfl⟩
set_option maxRecDepth 100000 in
theorem ln_st_P : Lens stW pW 2 (fun S : ST => S.P) (fun S u => S.sP u) := fun S P' => ⟨(stW S).take 2, (stW S).drop 11, rfl, rfl, rfl⟩
set_option maxRecDepth 100000 in
theorem ln_st_Z : Lens stW zW 11 (fun S : ST => S.Z) (fun S u => S.sZ u) := fun S P' => ⟨(stW S).take 11, (stW S).drop 17, rfl, rfl, rfl⟩
set_option maxRecDepth 100000 in
theorem ln_st_N : Lens stW nW 17 (fun S : ST => S.N) (fun S u => S.sN u) := fun S P' => ⟨(stW S).take 17, (stW S).drop 19, rfl, rfl, rfl⟩
set_option maxRecDepth 100000 in
theorem ln_st_E : Lens stW eW 19 (fun S : ST => S.E) (fun S u => S.sE u) := fun S P' => ⟨(stW S).take 19, (stW S).drop 24, rfl, rfl, rfl⟩
set_option maxRecDepth 100000 in
theorem ln_fp_now : Lens fpW stW 1 (fun S : FT => S.now) (fun S u => S.sNow u) := fun S P' => ⟨(fpW S).take 1, (fpW S).drop 25, rfl, rfl, rfl⟩
set_option maxRecDepth 100000 in
theorem ln_fp_now_P : Lens fpW pW 3 (fun S : FT => S.now.P) (fun S u => S.sNow (S.now.sP u)) := fun S P' => ⟨(fpW S).take 3, (fpW S).drop 12, rfl, rfl, rfl⟩
set_option maxRecDepth 100000 in
theorem ln_fp_now_Z : Lens fpW zW 12 (fun S : FT => S.now.Z) (fun S u => S.sNow (S.now.sZ u)) := fun S P' => ⟨(fpW S).take 12, (fpW S).drop 18, rfl, rfl, rfl⟩
set_option maxRecDepth 100000 in
theorem ln_fp_now_N : Lens fpW nW 18 (fun S : FT => S.now.N) (fun S u => S.sNow (S.now.sN u)) := fun S P' => ⟨(fpW S).take 18, (fpW S).drop 20, rfl, rfl, rfl⟩
set_option maxRecDepth 100000 in
theorem ln_fp_now_E : Lens fpW eW 20 (fun S : FT => S.now.E) (fun S u => S.sNow (S.now.sE u)) := fun S P' => ⟨(fpW S).take 20, (fpW S).drop 25, rfl, rfl, rfl⟩
set_option maxRecDepth 100000 in
theorem ln_fp_trial : Lens fpW stW 25 (fun S : FT => S.trial) (fun S u => S.sTrial u) := fun S P' => ⟨(fpW S).take 25, (fpW S).drop 49, rfl, rfl, rfl⟩
set_option maxRecDepth 100000 in
theorem ln_fp_trial_P : Lens fpW pW 27 (fun S : FT => S.trial.P) (fun S u => S.sTrial (S.trial.sP u)) := fun S P' => ⟨(fpW S).take 27, (fpW S).drop 36, rfl, rfl, rfl⟩
set_option maxRecDepth 100000 in
theorem ln_fp_trial_Z : Lens fpW zW 36 (fun S : FT => S.trial.Z) (fun S u => S.sTrial (S.trial.sZ u)) := fun S P' => ⟨(fpW S).take 36, (fpW S).drop 42, rfl, rfl, rfl⟩
set_option maxRecDepth 100000 in
theorem ln_fp_trial_N : Lens fpW nW 42 (fun S : FT => S.trial.N) (fun S u => S.sTrial (S.trial.sN u)) := fun S P' => ⟨(fpW S).take 42, (fpW S).drop 44, rfl, rfl, rfl⟩
set_option maxRecDepth 100000 in
theorem ln_fp_trial_E : Lens fpW eW 44 (fun S : FT => S.trial.E) (fun S u => S.sTrial (S.trial.sE u)) := fun S P' => ⟨(fpW S).take 44, (fpW S).drop 49, rfl, rfl, rfl⟩
set_option maxRecDepth 100000 in
theorem ln_fp_O : Lens fpW oW 50 (fun S : FT => S.O) (fun S u => S.sO u) := fun S P' => ⟨(fpW S).take 50, (fpW S).drop 52, rfl, rfl, rfl⟩
theorem rcv_eW : rcvOk eW RX0 := fun P => ⟨0, _, _, _, rfl, rfl⟩
theorem rcv_nW : rcvOk nW RX1 := fun P => ⟨1, _, _, _, rfl, rfl⟩
theorem rcv_oW : rcvOk oW RX2 := fun P => ⟨2, _, _, _, rfl, rfl⟩
theorem rcv_pW : rcvOk pW RX3 := fun P => ⟨3, _, _, _, rfl, rfl⟩
theorem rcv_stW : rcvOk stW RX4 := fun P => ⟨4, _, _, _, rfl, rfl⟩
theorem rcv_zW : rcvOk zW RX5 := fun P => ⟨5, _, _, _, rfl, rfl⟩
theorem rcv_fpW : rcvOk fpW RX6 := fun P => ⟨6, _, _, _, rfl, rfl⟩
end
section
/-! decode rows -/
theorem dX0_init_0 : decode cX0_init 0 = .ok (.aload_n 0, 1) := by decide +kernel
theorem dX0_init_1 : decode cX0_init 1 = .ok (.invokespecial 3, 3) := by decide +kernel
theorem dX0_init_4 : decode cX0_init 4 = .ok (.aload_n 0, 1) := by decide +kernel
theorem dX0_init_5 : decode cX0_init 5 = .ok (.bipush 12, 2) := by decide +kernel
theorem dX0_init_7 : decode cX0_init 7 = .ok (.newarray .int, 2) := by decide +kernel
theorem dX0_init_9 : decode cX0_init 9 = .ok (.putfield 11, 3) := by decide +kernel
theorem dX0_init_12 : decode cX0_init 12 = .ok (.aload_n 0, 1) := by decide +kernel
theorem dX0_init_13 : decode cX0_init 13 = .ok (.bipush 12, 2) := by decide +kernel
theorem dX0_init_15 : decode cX0_init 15 = .ok (.newarray .int, 2) := by decide +kernel
theorem dX0_init_17 : decode cX0_init 17 = .ok (.putfield 15, 3) := by decide +kernel
theorem dX0_init_20 : decode cX0_init 20 = .ok (.aload_n 0, 1) := by decide +kernel
theorem dX0_init_21 : decode cX0_init 21 = .ok (.bipush 12, 2) := by decide +kernel
theorem dX0_init_23 : decode cX0_init 23 = .ok (.newarray .int, 2) := by decide +kernel
theorem dX0_init_25 : decode cX0_init 25 = .ok (.putfield 18, 3) := by decide +kernel
theorem dX0_init_28 : decode cX0_init 28 = .ok (.aload_n 0, 1) := by decide +kernel
theorem dX0_init_29 : decode cX0_init 29 = .ok (.bipush 8, 2) := by decide +kernel
theorem dX0_init_31 : decode cX0_init 31 = .ok (.newarray .int, 2) := by decide +kernel
theorem dX0_init_33 : decode cX0_init 33 = .ok (.putfield 21, 3) := by decide +kernel
theorem dX0_init_36 : decode cX0_init 36 = .ok (.return_, 1) := by decide +kernel
theorem dX0_copyFrom_0 : decode cX0_copyFrom 0 = .ok (.aload_n 1, 1) := by decide +kernel
theorem dX0_copyFrom_1 : decode cX0_copyFrom 1 = .ok (.getfield 11, 3) := by decide +kernel
theorem dX0_copyFrom_4 : decode cX0_copyFrom 4 = .ok (.iconst 0, 1) := by decide +kernel
theorem dX0_copyFrom_5 : decode cX0_copyFrom 5 = .ok (.aload_n 0, 1) := by decide +kernel
theorem dX0_copyFrom_6 : decode cX0_copyFrom 6 = .ok (.getfield 11, 3) := by decide +kernel
theorem dX0_copyFrom_9 : decode cX0_copyFrom 9 = .ok (.iconst 0, 1) := by decide +kernel
theorem dX0_copyFrom_10 : decode cX0_copyFrom 10 = .ok (.bipush 12, 2) := by decide +kernel
theorem dX0_copyFrom_12 : decode cX0_copyFrom 12 = .ok (.invokestatic 24, 3) := by decide +kernel
theorem dX0_copyFrom_15 : decode cX0_copyFrom 15 = .ok (.aload_n 1, 1) := by decide +kernel
theorem dX0_copyFrom_16 : decode cX0_copyFrom 16 = .ok (.getfield 15, 3) := by decide +kernel
theorem dX0_copyFrom_19 : decode cX0_copyFrom 19 = .ok (.iconst 0, 1) := by decide +kernel
theorem dX0_copyFrom_20 : decode cX0_copyFrom 20 = .ok (.aload_n 0, 1) := by decide +kernel
theorem dX0_copyFrom_21 : decode cX0_copyFrom 21 = .ok (.getfield 15, 3) := by decide +kernel
theorem dX0_copyFrom_24 : decode cX0_copyFrom 24 = .ok (.iconst 0, 1) := by decide +kernel
theorem dX0_copyFrom_25 : decode cX0_copyFrom 25 = .ok (.bipush 12, 2) := by decide +kernel
theorem dX0_copyFrom_27 : decode cX0_copyFrom 27 = .ok (.invokestatic 24, 3) := by decide +kernel
theorem dX0_copyFrom_30 : decode cX0_copyFrom 30 = .ok (.aload_n 1, 1) := by decide +kernel
theorem dX0_copyFrom_31 : decode cX0_copyFrom 31 = .ok (.getfield 18, 3) := by decide +kernel
theorem dX0_copyFrom_34 : decode cX0_copyFrom 34 = .ok (.iconst 0, 1) := by decide +kernel
theorem dX0_copyFrom_35 : decode cX0_copyFrom 35 = .ok (.aload_n 0, 1) := by decide +kernel
theorem dX0_copyFrom_36 : decode cX0_copyFrom 36 = .ok (.getfield 18, 3) := by decide +kernel
theorem dX0_copyFrom_39 : decode cX0_copyFrom 39 = .ok (.iconst 0, 1) := by decide +kernel
theorem dX0_copyFrom_40 : decode cX0_copyFrom 40 = .ok (.bipush 12, 2) := by decide +kernel
theorem dX0_copyFrom_42 : decode cX0_copyFrom 42 = .ok (.invokestatic 24, 3) := by decide +kernel
theorem dX0_copyFrom_45 : decode cX0_copyFrom 45 = .ok (.aload_n 1, 1) := by decide +kernel
theorem dX0_copyFrom_46 : decode cX0_copyFrom 46 = .ok (.getfield 21, 3) := by decide +kernel
theorem dX0_copyFrom_49 : decode cX0_copyFrom 49 = .ok (.iconst 0, 1) := by decide +kernel
theorem dX0_copyFrom_50 : decode cX0_copyFrom 50 = .ok (.aload_n 0, 1) := by decide +kernel
theorem dX0_copyFrom_51 : decode cX0_copyFrom 51 = .ok (.getfield 21, 3) := by decide +kernel
theorem dX0_copyFrom_54 : decode cX0_copyFrom 54 = .ok (.iconst 0, 1) := by decide +kernel
theorem dX0_copyFrom_55 : decode cX0_copyFrom 55 = .ok (.bipush 8, 2) := by decide +kernel
theorem dX0_copyFrom_57 : decode cX0_copyFrom 57 = .ok (.invokestatic 24, 3) := by decide +kernel
theorem dX0_copyFrom_60 : decode cX0_copyFrom 60 = .ok (.aload_n 0, 1) := by decide +kernel
theorem dX0_copyFrom_61 : decode cX0_copyFrom 61 = .ok (.aload_n 1, 1) := by decide +kernel
theorem dX0_copyFrom_62 : decode cX0_copyFrom 62 = .ok (.getfield 30, 3) := by decide +kernel
theorem dX0_copyFrom_65 : decode cX0_copyFrom 65 = .ok (.putfield 30, 3) := by decide +kernel
theorem dX0_copyFrom_68 : decode cX0_copyFrom 68 = .ok (.return_, 1) := by decide +kernel
theorem dX0_add_0 : decode cX0_add 0 = .ok (.iload_n 1, 1) := by decide +kernel
theorem dX0_add_1 : decode cX0_add 1 = .ok (.ifCond .lt 16, 3) := by decide +kernel
theorem dX0_add_4 : decode cX0_add 4 = .ok (.iload_n 1, 1) := by decide +kernel
theorem dX0_add_5 : decode cX0_add 5 = .ok (.bipush 8, 2) := by decide +kernel
theorem dX0_add_7 : decode cX0_add 7 = .ok (.if_icmp .ge 10, 3) := by decide +kernel
theorem dX0_add_10 : decode cX0_add 10 = .ok (.aload_n 0, 1) := by decide +kernel
theorem dX0_add_11 : decode cX0_add 11 = .ok (.getfield 30, 3) := by decide +kernel
theorem dX0_add_14 : decode cX0_add 14 = .ok (.ifCond .ge 4, 3) := by decide +kernel
theorem dX0_add_17 : decode cX0_add 17 = .ok (.return_, 1) := by decide +kernel
theorem dX0_add_18 : decode cX0_add 18 = .ok (.aload_n 0, 1) := by decide +kernel
theorem dX0_add_19 : decode cX0_add 19 = .ok (.getfield 30, 3) := by decide +kernel
theorem dX0_add_22 : decode cX0_add 22 = .ok (.bipush 12, 2) := by decide +kernel
theorem dX0_add_24 : decode cX0_add 24 = .ok (.irem, 1) := by decide +kernel
theorem dX0_add_25 : decode cX0_add 25 = .ok (.istore 4, 2) := by decide +kernel
theorem dX0_add_27 : decode cX0_add 27 = .ok (.aload_n 0, 1) := by decide +kernel
theorem dX0_add_28 : decode cX0_add 28 = .ok (.getfield 11, 3) := by decide +kernel
theorem dX0_add_31 : decode cX0_add 31 = .ok (.iload 4, 2) := by decide +kernel
theorem dX0_add_33 : decode cX0_add 33 = .ok (.iload_n 1, 1) := by decide +kernel
theorem dX0_add_34 : decode cX0_add 34 = .ok (.iastore, 1) := by decide +kernel
theorem dX0_add_35 : decode cX0_add 35 = .ok (.aload_n 0, 1) := by decide +kernel
theorem dX0_add_36 : decode cX0_add 36 = .ok (.getfield 15, 3) := by decide +kernel
theorem dX0_add_39 : decode cX0_add 39 = .ok (.iload 4, 2) := by decide +kernel
theorem dX0_add_41 : decode cX0_add 41 = .ok (.iload_n 2, 1) := by decide +kernel
theorem dX0_add_42 : decode cX0_add 42 = .ok (.iastore, 1) := by decide +kernel
theorem dX0_add_43 : decode cX0_add 43 = .ok (.aload_n 0, 1) := by decide +kernel
theorem dX0_add_44 : decode cX0_add 44 = .ok (.getfield 18, 3) := by decide +kernel
theorem dX0_add_47 : decode cX0_add 47 = .ok (.iload 4, 2) := by decide +kernel
theorem dX0_add_49 : decode cX0_add 49 = .ok (.iload_n 3, 1) := by decide +kernel
theorem dX0_add_50 : decode cX0_add 50 = .ok (.iastore, 1) := by decide +kernel
theorem dX0_add_51 : decode cX0_add 51 = .ok (.aload_n 0, 1) := by decide +kernel
theorem dX0_add_52 : decode cX0_add 52 = .ok (.getfield 21, 3) := by decide +kernel
theorem dX0_add_55 : decode cX0_add 55 = .ok (.iload_n 1, 1) := by decide +kernel
theorem dX0_add_56 : decode cX0_add 56 = .ok (.iload_n 2, 1) := by decide +kernel
theorem dX0_add_57 : decode cX0_add 57 = .ok (.iastore, 1) := by decide +kernel
theorem dX0_add_58 : decode cX0_add 58 = .ok (.aload_n 0, 1) := by decide +kernel
theorem dX0_add_59 : decode cX0_add 59 = .ok (.dup, 1) := by decide +kernel
theorem dX0_add_60 : decode cX0_add 60 = .ok (.getfield 30, 3) := by decide +kernel
theorem dX0_add_63 : decode cX0_add 63 = .ok (.iconst 1, 1) := by decide +kernel
theorem dX0_add_64 : decode cX0_add 64 = .ok (.iadd, 1) := by decide +kernel
theorem dX0_add_65 : decode cX0_add 65 = .ok (.putfield 30, 3) := by decide +kernel
theorem dX0_add_68 : decode cX0_add 68 = .ok (.return_, 1) := by decide +kernel
theorem dX0_kept_0 : decode cX0_kept 0 = .ok (.bipush 12, 2) := by decide +kernel
theorem dX0_kept_2 : decode cX0_kept 2 = .ok (.aload_n 0, 1) := by decide +kernel
theorem dX0_kept_3 : decode cX0_kept 3 = .ok (.getfield 30, 3) := by decide +kernel
theorem dX0_kept_6 : decode cX0_kept 6 = .ok (.invokestatic 34, 3) := by decide +kernel
theorem dX0_kept_9 : decode cX0_kept 9 = .ok (.ireturn, 1) := by decide +kernel
theorem dX0_rowOf_0 : decode cX0_rowOf 0 = .ok (.iload_n 1, 1) := by decide +kernel
theorem dX0_rowOf_1 : decode cX0_rowOf 1 = .ok (.ifCond .lt 25, 3) := by decide +kernel
theorem dX0_rowOf_4 : decode cX0_rowOf 4 = .ok (.iload_n 1, 1) := by decide +kernel
theorem dX0_rowOf_5 : decode cX0_rowOf 5 = .ok (.aload_n 0, 1) := by decide +kernel
theorem dX0_rowOf_6 : decode cX0_rowOf 6 = .ok (.invokevirtual 40, 3) := by decide +kernel
theorem dX0_rowOf_9 : decode cX0_rowOf 9 = .ok (.if_icmp .ge 17, 3) := by decide +kernel
theorem dX0_rowOf_12 : decode cX0_rowOf 12 = .ok (.aload_n 0, 1) := by decide +kernel
theorem dX0_rowOf_13 : decode cX0_rowOf 13 = .ok (.getfield 30, 3) := by decide +kernel
theorem dX0_rowOf_16 : decode cX0_rowOf 16 = .ok (.iconst 1, 1) := by decide +kernel
theorem dX0_rowOf_17 : decode cX0_rowOf 17 = .ok (.isub, 1) := by decide +kernel
theorem dX0_rowOf_18 : decode cX0_rowOf 18 = .ok (.iload_n 1, 1) := by decide +kernel
theorem dX0_rowOf_19 : decode cX0_rowOf 19 = .ok (.isub, 1) := by decide +kernel
theorem dX0_rowOf_20 : decode cX0_rowOf 20 = .ok (.bipush 12, 2) := by decide +kernel
theorem dX0_rowOf_22 : decode cX0_rowOf 22 = .ok (.irem, 1) := by decide +kernel
theorem dX0_rowOf_23 : decode cX0_rowOf 23 = .ok (.goto 4, 3) := by decide +kernel
theorem dX0_rowOf_26 : decode cX0_rowOf 26 = .ok (.iconst (-1), 1) := by decide +kernel
theorem dX0_rowOf_27 : decode cX0_rowOf 27 = .ok (.ireturn, 1) := by decide +kernel
theorem dX1_init_0 : decode cX1_init 0 = .ok (.aload_n 0, 1) := by decide +kernel
theorem dX1_init_1 : decode cX1_init 1 = .ok (.invokespecial 1, 3) := by decide +kernel
theorem dX1_init_4 : decode cX1_init 4 = .ok (.aload_n 0, 1) := by decide +kernel
theorem dX1_init_5 : decode cX1_init 5 = .ok (.bipush 7, 2) := by decide +kernel
theorem dX1_init_7 : decode cX1_init 7 = .ok (.newarray .int, 2) := by decide +kernel
theorem dX1_init_9 : decode cX1_init 9 = .ok (.putfield 9, 3) := by decide +kernel
theorem dX1_init_12 : decode cX1_init 12 = .ok (.return_, 1) := by decide +kernel
theorem dX1_copyFrom_0 : decode cX1_copyFrom 0 = .ok (.aload_n 1, 1) := by decide +kernel
theorem dX1_copyFrom_1 : decode cX1_copyFrom 1 = .ok (.getfield 9, 3) := by decide +kernel
theorem dX1_copyFrom_4 : decode cX1_copyFrom 4 = .ok (.iconst 0, 1) := by decide +kernel
theorem dX1_copyFrom_5 : decode cX1_copyFrom 5 = .ok (.aload_n 0, 1) := by decide +kernel
theorem dX1_copyFrom_6 : decode cX1_copyFrom 6 = .ok (.getfield 9, 3) := by decide +kernel
theorem dX1_copyFrom_9 : decode cX1_copyFrom 9 = .ok (.iconst 0, 1) := by decide +kernel
theorem dX1_copyFrom_10 : decode cX1_copyFrom 10 = .ok (.bipush 7, 2) := by decide +kernel
theorem dX1_copyFrom_12 : decode cX1_copyFrom 12 = .ok (.invokestatic 13, 3) := by decide +kernel
theorem dX1_copyFrom_15 : decode cX1_copyFrom 15 = .ok (.aload_n 0, 1) := by decide +kernel
theorem dX1_copyFrom_16 : decode cX1_copyFrom 16 = .ok (.aload_n 1, 1) := by decide +kernel
theorem dX1_copyFrom_17 : decode cX1_copyFrom 17 = .ok (.getfield 19, 3) := by decide +kernel
theorem dX1_copyFrom_20 : decode cX1_copyFrom 20 = .ok (.putfield 19, 3) := by decide +kernel
theorem dX1_copyFrom_23 : decode cX1_copyFrom 23 = .ok (.aload_n 0, 1) := by decide +kernel
theorem dX1_copyFrom_24 : decode cX1_copyFrom 24 = .ok (.aload_n 1, 1) := by decide +kernel
theorem dX1_copyFrom_25 : decode cX1_copyFrom 25 = .ok (.getfield 23, 3) := by decide +kernel
theorem dX1_copyFrom_28 : decode cX1_copyFrom 28 = .ok (.putfield 23, 3) := by decide +kernel
theorem dX1_copyFrom_31 : decode cX1_copyFrom 31 = .ok (.aload_n 0, 1) := by decide +kernel
theorem dX1_copyFrom_32 : decode cX1_copyFrom 32 = .ok (.aload_n 1, 1) := by decide +kernel
theorem dX1_copyFrom_33 : decode cX1_copyFrom 33 = .ok (.getfield 26, 3) := by decide +kernel
theorem dX1_copyFrom_36 : decode cX1_copyFrom 36 = .ok (.putfield 26, 3) := by decide +kernel
theorem dX1_copyFrom_39 : decode cX1_copyFrom 39 = .ok (.return_, 1) := by decide +kernel
theorem dX1_tellLeak_0 : decode cX1_tellLeak 0 = .ok (.aload_n 0, 1) := by decide +kernel
theorem dX1_tellLeak_1 : decode cX1_tellLeak 1 = .ok (.getfield 19, 3) := by decide +kernel
theorem dX1_tellLeak_4 : decode cX1_tellLeak 4 = .ok (.iconst 3, 1) := by decide +kernel
theorem dX1_tellLeak_5 : decode cX1_tellLeak 5 = .ok (.if_icmp .lt 20, 3) := by decide +kernel
theorem dX1_tellLeak_8 : decode cX1_tellLeak 8 = .ok (.aload_n 0, 1) := by decide +kernel
theorem dX1_tellLeak_9 : decode cX1_tellLeak 9 = .ok (.getfield 23, 3) := by decide +kernel
theorem dX1_tellLeak_12 : decode cX1_tellLeak 12 = .ok (.aload_n 0, 1) := by decide +kernel
theorem dX1_tellLeak_13 : decode cX1_tellLeak 13 = .ok (.invokevirtual 29, 3) := by decide +kernel
theorem dX1_tellLeak_16 : decode cX1_tellLeak 16 = .ok (.iload_n 1, 1) := by decide +kernel
theorem dX1_tellLeak_17 : decode cX1_tellLeak 17 = .ok (.iadd, 1) := by decide +kernel
theorem dX1_tellLeak_18 : decode cX1_tellLeak 18 = .ok (.if_icmp .le 7, 3) := by decide +kernel
theorem dX1_tellLeak_21 : decode cX1_tellLeak 21 = .ok (.iconst 1, 1) := by decide +kernel
theorem dX1_tellLeak_22 : decode cX1_tellLeak 22 = .ok (.goto 4, 3) := by decide +kernel
theorem dX1_tellLeak_25 : decode cX1_tellLeak 25 = .ok (.iconst 0, 1) := by decide +kernel
theorem dX1_tellLeak_26 : decode cX1_tellLeak 26 = .ok (.ireturn, 1) := by decide +kernel
theorem dX1_middle_0 : decode cX1_middle 0 = .ok (.iconst 0, 1) := by decide +kernel
theorem dX1_middle_1 : decode cX1_middle 1 = .ok (.istore_n 1, 1) := by decide +kernel
theorem dX1_middle_2 : decode cX1_middle 2 = .ok (.iload_n 1, 1) := by decide +kernel
theorem dX1_middle_3 : decode cX1_middle 3 = .ok (.aload_n 0, 1) := by decide +kernel
theorem dX1_middle_4 : decode cX1_middle 4 = .ok (.getfield 19, 3) := by decide +kernel
theorem dX1_middle_7 : decode cX1_middle 7 = .ok (.if_icmp .ge 101, 3) := by decide +kernel
theorem dX1_middle_10 : decode cX1_middle 10 = .ok (.iconst 0, 1) := by decide +kernel
theorem dX1_middle_11 : decode cX1_middle 11 = .ok (.istore_n 2, 1) := by decide +kernel
theorem dX1_middle_12 : decode cX1_middle 12 = .ok (.iconst 0, 1) := by decide +kernel
theorem dX1_middle_13 : decode cX1_middle 13 = .ok (.istore_n 3, 1) := by decide +kernel
theorem dX1_middle_14 : decode cX1_middle 14 = .ok (.iload_n 3, 1) := by decide +kernel
theorem dX1_middle_15 : decode cX1_middle 15 = .ok (.aload_n 0, 1) := by decide +kernel
theorem dX1_middle_16 : decode cX1_middle 16 = .ok (.getfield 19, 3) := by decide +kernel
theorem dX1_middle_19 : decode cX1_middle 19 = .ok (.if_icmp .ge 64, 3) := by decide +kernel
theorem dX1_middle_22 : decode cX1_middle 22 = .ok (.aload_n 0, 1) := by decide +kernel
theorem dX1_middle_23 : decode cX1_middle 23 = .ok (.getfield 9, 3) := by decide +kernel
theorem dX1_middle_26 : decode cX1_middle 26 = .ok (.iload_n 3, 1) := by decide +kernel
theorem dX1_middle_27 : decode cX1_middle 27 = .ok (.iaload, 1) := by decide +kernel
theorem dX1_middle_28 : decode cX1_middle 28 = .ok (.aload_n 0, 1) := by decide +kernel
theorem dX1_middle_29 : decode cX1_middle 29 = .ok (.getfield 9, 3) := by decide +kernel
theorem dX1_middle_32 : decode cX1_middle 32 = .ok (.iload_n 1, 1) := by decide +kernel
theorem dX1_middle_33 : decode cX1_middle 33 = .ok (.iaload, 1) := by decide +kernel
theorem dX1_middle_34 : decode cX1_middle 34 = .ok (.if_icmp .lt 23, 3) := by decide +kernel
theorem dX1_middle_37 : decode cX1_middle 37 = .ok (.aload_n 0, 1) := by decide +kernel
theorem dX1_middle_38 : decode cX1_middle 38 = .ok (.getfield 9, 3) := by decide +kernel
theorem dX1_middle_41 : decode cX1_middle 41 = .ok (.iload_n 3, 1) := by decide +kernel
theorem dX1_middle_42 : decode cX1_middle 42 = .ok (.iaload, 1) := by decide +kernel
theorem dX1_middle_43 : decode cX1_middle 43 = .ok (.aload_n 0, 1) := by decide +kernel
theorem dX1_middle_44 : decode cX1_middle 44 = .ok (.getfield 9, 3) := by decide +kernel
theorem dX1_middle_47 : decode cX1_middle 47 = .ok (.iload_n 1, 1) := by decide +kernel
theorem dX1_middle_48 : decode cX1_middle 48 = .ok (.iaload, 1) := by decide +kernel
theorem dX1_middle_49 : decode cX1_middle 49 = .ok (.if_icmp .ne 12, 3) := by decide +kernel
theorem dX1_middle_52 : decode cX1_middle 52 = .ok (.iload_n 3, 1) := by decide +kernel
theorem dX1_middle_53 : decode cX1_middle 53 = .ok (.iload_n 1, 1) := by decide +kernel
theorem dX1_middle_54 : decode cX1_middle 54 = .ok (.if_icmp .ge 7, 3) := by decide +kernel
theorem dX1_middle_57 : decode cX1_middle 57 = .ok (.iconst 1, 1) := by decide +kernel
theorem dX1_middle_58 : decode cX1_middle 58 = .ok (.goto 4, 3) := by decide +kernel
theorem dX1_middle_61 : decode cX1_middle 61 = .ok (.iconst 0, 1) := by decide +kernel
theorem dX1_middle_62 : decode cX1_middle 62 = .ok (.istore 4, 2) := by decide +kernel
theorem dX1_middle_64 : decode cX1_middle 64 = .ok (.iload_n 2, 1) := by decide +kernel
theorem dX1_middle_65 : decode cX1_middle 65 = .ok (.iload 4, 2) := by decide +kernel
theorem dX1_middle_67 : decode cX1_middle 67 = .ok (.ifCond .eq 7, 3) := by decide +kernel
theorem dX1_middle_70 : decode cX1_middle 70 = .ok (.iconst 1, 1) := by decide +kernel
theorem dX1_middle_71 : decode cX1_middle 71 = .ok (.goto 4, 3) := by decide +kernel
theorem dX1_middle_74 : decode cX1_middle 74 = .ok (.iconst 0, 1) := by decide +kernel
theorem dX1_middle_75 : decode cX1_middle 75 = .ok (.iadd, 1) := by decide +kernel
theorem dX1_middle_76 : decode cX1_middle 76 = .ok (.istore_n 2, 1) := by decide +kernel
theorem dX1_middle_77 : decode cX1_middle 77 = .ok (.iinc 3 1, 3) := by decide +kernel
theorem dX1_middle_80 : decode cX1_middle 80 = .ok (.goto (-66), 3) := by decide +kernel
theorem dX1_middle_83 : decode cX1_middle 83 = .ok (.iload_n 2, 1) := by decide +kernel
theorem dX1_middle_84 : decode cX1_middle 84 = .ok (.aload_n 0, 1) := by decide +kernel
theorem dX1_middle_85 : decode cX1_middle 85 = .ok (.getfield 19, 3) := by decide +kernel
theorem dX1_middle_88 : decode cX1_middle 88 = .ok (.iconst 1, 1) := by decide +kernel
theorem dX1_middle_89 : decode cX1_middle 89 = .ok (.isub, 1) := by decide +kernel
theorem dX1_middle_90 : decode cX1_middle 90 = .ok (.iconst 2, 1) := by decide +kernel
theorem dX1_middle_91 : decode cX1_middle 91 = .ok (.idiv, 1) := by decide +kernel
theorem dX1_middle_92 : decode cX1_middle 92 = .ok (.if_icmp .ne 10, 3) := by decide +kernel
theorem dX1_middle_95 : decode cX1_middle 95 = .ok (.aload_n 0, 1) := by decide +kernel
theorem dX1_middle_96 : decode cX1_middle 96 = .ok (.getfield 9, 3) := by decide +kernel
theorem dX1_middle_99 : decode cX1_middle 99 = .ok (.iload_n 1, 1) := by decide +kernel
theorem dX1_middle_100 : decode cX1_middle 100 = .ok (.iaload, 1) := by decide +kernel
theorem dX1_middle_101 : decode cX1_middle 101 = .ok (.ireturn, 1) := by decide +kernel
theorem dX1_middle_102 : decode cX1_middle 102 = .ok (.iinc 1 1, 3) := by decide +kernel
theorem dX1_middle_105 : decode cX1_middle 105 = .ok (.goto (-103), 3) := by decide +kernel
theorem dX1_middle_108 : decode cX1_middle 108 = .ok (.iconst 0, 1) := by decide +kernel
theorem dX1_middle_109 : decode cX1_middle 109 = .ok (.ireturn, 1) := by decide +kernel
theorem dX1_note_0 : decode cX1_note 0 = .ok (.bipush 6, 2) := by decide +kernel
theorem dX1_note_2 : decode cX1_note 2 = .ok (.istore_n 1, 1) := by decide +kernel
theorem dX1_note_3 : decode cX1_note 3 = .ok (.iload_n 1, 1) := by decide +kernel
theorem dX1_note_4 : decode cX1_note 4 = .ok (.ifCond .le 23, 3) := by decide +kernel
theorem dX1_note_7 : decode cX1_note 7 = .ok (.aload_n 0, 1) := by decide +kernel
theorem dX1_note_8 : decode cX1_note 8 = .ok (.getfield 9, 3) := by decide +kernel
theorem dX1_note_11 : decode cX1_note 11 = .ok (.iload_n 1, 1) := by decide +kernel
theorem dX1_note_12 : decode cX1_note 12 = .ok (.aload_n 0, 1) := by decide +kernel
theorem dX1_note_13 : decode cX1_note 13 = .ok (.getfield 9, 3) := by decide +kernel
theorem dX1_note_16 : decode cX1_note 16 = .ok (.iload_n 1, 1) := by decide +kernel
theorem dX1_note_17 : decode cX1_note 17 = .ok (.iconst 1, 1) := by decide +kernel
theorem dX1_note_18 : decode cX1_note 18 = .ok (.isub, 1) := by decide +kernel
theorem dX1_note_19 : decode cX1_note 19 = .ok (.iaload, 1) := by decide +kernel
theorem dX1_note_20 : decode cX1_note 20 = .ok (.iastore, 1) := by decide +kernel
theorem dX1_note_21 : decode cX1_note 21 = .ok (.iinc 1 (-1), 3) := by decide +kernel
theorem dX1_note_24 : decode cX1_note 24 = .ok (.goto (-21), 3) := by decide +kernel
theorem dX1_note_27 : decode cX1_note 27 = .ok (.aload_n 0, 1) := by decide +kernel
theorem dX1_note_28 : decode cX1_note 28 = .ok (.getfield 9, 3) := by decide +kernel
theorem dX1_note_31 : decode cX1_note 31 = .ok (.iconst 0, 1) := by decide +kernel
theorem dX1_note_32 : decode cX1_note 32 = .ok (.aload_n 0, 1) := by decide +kernel
theorem dX1_note_33 : decode cX1_note 33 = .ok (.getfield 23, 3) := by decide +kernel
theorem dX1_note_36 : decode cX1_note 36 = .ok (.iastore, 1) := by decide +kernel
theorem dX1_note_37 : decode cX1_note 37 = .ok (.aload_n 0, 1) := by decide +kernel
theorem dX1_note_38 : decode cX1_note 38 = .ok (.bipush 7, 2) := by decide +kernel
theorem dX1_note_40 : decode cX1_note 40 = .ok (.aload_n 0, 1) := by decide +kernel
theorem dX1_note_41 : decode cX1_note 41 = .ok (.getfield 19, 3) := by decide +kernel
theorem dX1_note_44 : decode cX1_note 44 = .ok (.iconst 1, 1) := by decide +kernel
theorem dX1_note_45 : decode cX1_note 45 = .ok (.iadd, 1) := by decide +kernel
theorem dX1_note_46 : decode cX1_note 46 = .ok (.invokestatic 33, 3) := by decide +kernel
theorem dX1_note_49 : decode cX1_note 49 = .ok (.putfield 19, 3) := by decide +kernel
theorem dX1_note_52 : decode cX1_note 52 = .ok (.aload_n 0, 1) := by decide +kernel
theorem dX1_note_53 : decode cX1_note 53 = .ok (.iconst 0, 1) := by decide +kernel
theorem dX1_note_54 : decode cX1_note 54 = .ok (.putfield 23, 3) := by decide +kernel
theorem dX1_note_57 : decode cX1_note 57 = .ok (.return_, 1) := by decide +kernel
theorem dX2_init_0 : decode cX2_init 0 = .ok (.aload_n 0, 1) := by decide +kernel
theorem dX2_init_1 : decode cX2_init 1 = .ok (.invokespecial 1, 3) := by decide +kernel
theorem dX2_init_4 : decode cX2_init 4 = .ok (.aload_n 0, 1) := by decide +kernel
theorem dX2_init_5 : decode cX2_init 5 = .ok (.bipush 60, 2) := by decide +kernel
theorem dX2_init_7 : decode cX2_init 7 = .ok (.newarray .char, 2) := by decide +kernel
theorem dX2_init_9 : decode cX2_init 9 = .ok (.putfield 9, 3) := by decide +kernel
theorem dX2_init_12 : decode cX2_init 12 = .ok (.return_, 1) := by decide +kernel
theorem dX5_init_0 : decode cX5_init 0 = .ok (.aload_n 0, 1) := by decide +kernel
theorem dX5_init_1 : decode cX5_init 1 = .ok (.invokespecial 3, 3) := by decide +kernel
theorem dX5_init_4 : decode cX5_init 4 = .ok (.aload_n 0, 1) := by decide +kernel
theorem dX5_init_5 : decode cX5_init 5 = .ok (.bipush 8, 2) := by decide +kernel
theorem dX5_init_7 : decode cX5_init 7 = .ok (.newarray .int, 2) := by decide +kernel
theorem dX5_init_9 : decode cX5_init 9 = .ok (.putfield 11, 3) := by decide +kernel
theorem dX5_init_12 : decode cX5_init 12 = .ok (.aload_n 0, 1) := by decide +kernel
theorem dX5_init_13 : decode cX5_init 13 = .ok (.bipush 8, 2) := by decide +kernel
theorem dX5_init_15 : decode cX5_init 15 = .ok (.newarray .boolean, 2) := by decide +kernel
theorem dX5_init_17 : decode cX5_init 17 = .ok (.putfield 15, 3) := by decide +kernel
theorem dX5_init_20 : decode cX5_init 20 = .ok (.aload_n 0, 1) := by decide +kernel
theorem dX5_init_21 : decode cX5_init 21 = .ok (.bipush 8, 2) := by decide +kernel
theorem dX5_init_23 : decode cX5_init 23 = .ok (.newarray .int, 2) := by decide +kernel
theorem dX5_init_25 : decode cX5_init 25 = .ok (.putfield 19, 3) := by decide +kernel
theorem dX5_init_28 : decode cX5_init 28 = .ok (.aload_n 0, 1) := by decide +kernel
theorem dX5_init_29 : decode cX5_init 29 = .ok (.bipush 8, 2) := by decide +kernel
theorem dX5_init_31 : decode cX5_init 31 = .ok (.newarray .int, 2) := by decide +kernel
theorem dX5_init_33 : decode cX5_init 33 = .ok (.putfield 22, 3) := by decide +kernel
theorem dX5_init_36 : decode cX5_init 36 = .ok (.aload_n 0, 1) := by decide +kernel
theorem dX5_init_37 : decode cX5_init 37 = .ok (.bipush 8, 2) := by decide +kernel
theorem dX5_init_39 : decode cX5_init 39 = .ok (.newarray .int, 2) := by decide +kernel
theorem dX5_init_41 : decode cX5_init 41 = .ok (.putfield 25, 3) := by decide +kernel
theorem dX5_init_44 : decode cX5_init 44 = .ok (.return_, 1) := by decide +kernel
theorem dX5_copyFrom_0 : decode cX5_copyFrom 0 = .ok (.aload_n 1, 1) := by decide +kernel
theorem dX5_copyFrom_1 : decode cX5_copyFrom 1 = .ok (.getfield 11, 3) := by decide +kernel
theorem dX5_copyFrom_4 : decode cX5_copyFrom 4 = .ok (.iconst 0, 1) := by decide +kernel
theorem dX5_copyFrom_5 : decode cX5_copyFrom 5 = .ok (.aload_n 0, 1) := by decide +kernel
theorem dX5_copyFrom_6 : decode cX5_copyFrom 6 = .ok (.getfield 11, 3) := by decide +kernel
theorem dX5_copyFrom_9 : decode cX5_copyFrom 9 = .ok (.iconst 0, 1) := by decide +kernel
theorem dX5_copyFrom_10 : decode cX5_copyFrom 10 = .ok (.bipush 8, 2) := by decide +kernel
theorem dX5_copyFrom_12 : decode cX5_copyFrom 12 = .ok (.invokestatic 28, 3) := by decide +kernel
theorem dX5_copyFrom_15 : decode cX5_copyFrom 15 = .ok (.aload_n 1, 1) := by decide +kernel
theorem dX5_copyFrom_16 : decode cX5_copyFrom 16 = .ok (.getfield 15, 3) := by decide +kernel
theorem dX5_copyFrom_19 : decode cX5_copyFrom 19 = .ok (.iconst 0, 1) := by decide +kernel
theorem dX5_copyFrom_20 : decode cX5_copyFrom 20 = .ok (.aload_n 0, 1) := by decide +kernel
theorem dX5_copyFrom_21 : decode cX5_copyFrom 21 = .ok (.getfield 15, 3) := by decide +kernel
theorem dX5_copyFrom_24 : decode cX5_copyFrom 24 = .ok (.iconst 0, 1) := by decide +kernel
theorem dX5_copyFrom_25 : decode cX5_copyFrom 25 = .ok (.bipush 8, 2) := by decide +kernel
theorem dX5_copyFrom_27 : decode cX5_copyFrom 27 = .ok (.invokestatic 28, 3) := by decide +kernel
theorem dX5_copyFrom_30 : decode cX5_copyFrom 30 = .ok (.aload_n 0, 1) := by decide +kernel
theorem dX5_copyFrom_31 : decode cX5_copyFrom 31 = .ok (.aload_n 1, 1) := by decide +kernel
theorem dX5_copyFrom_32 : decode cX5_copyFrom 32 = .ok (.getfield 34, 3) := by decide +kernel
theorem dX5_copyFrom_35 : decode cX5_copyFrom 35 = .ok (.putfield 34, 3) := by decide +kernel
theorem dX5_copyFrom_38 : decode cX5_copyFrom 38 = .ok (.aload_n 1, 1) := by decide +kernel
theorem dX5_copyFrom_39 : decode cX5_copyFrom 39 = .ok (.getfield 19, 3) := by decide +kernel
theorem dX5_copyFrom_42 : decode cX5_copyFrom 42 = .ok (.iconst 0, 1) := by decide +kernel
theorem dX5_copyFrom_43 : decode cX5_copyFrom 43 = .ok (.aload_n 0, 1) := by decide +kernel
theorem dX5_copyFrom_44 : decode cX5_copyFrom 44 = .ok (.getfield 19, 3) := by decide +kernel
theorem dX5_copyFrom_47 : decode cX5_copyFrom 47 = .ok (.iconst 0, 1) := by decide +kernel
theorem dX5_copyFrom_48 : decode cX5_copyFrom 48 = .ok (.bipush 8, 2) := by decide +kernel
theorem dX5_copyFrom_50 : decode cX5_copyFrom 50 = .ok (.invokestatic 28, 3) := by decide +kernel
theorem dX5_copyFrom_53 : decode cX5_copyFrom 53 = .ok (.aload_n 1, 1) := by decide +kernel
theorem dX5_copyFrom_54 : decode cX5_copyFrom 54 = .ok (.getfield 22, 3) := by decide +kernel
theorem dX5_copyFrom_57 : decode cX5_copyFrom 57 = .ok (.iconst 0, 1) := by decide +kernel
theorem dX5_copyFrom_58 : decode cX5_copyFrom 58 = .ok (.aload_n 0, 1) := by decide +kernel
theorem dX5_copyFrom_59 : decode cX5_copyFrom 59 = .ok (.getfield 22, 3) := by decide +kernel
theorem dX5_copyFrom_62 : decode cX5_copyFrom 62 = .ok (.iconst 0, 1) := by decide +kernel
theorem dX5_copyFrom_63 : decode cX5_copyFrom 63 = .ok (.bipush 8, 2) := by decide +kernel
theorem dX5_copyFrom_65 : decode cX5_copyFrom 65 = .ok (.invokestatic 28, 3) := by decide +kernel
theorem dX5_copyFrom_68 : decode cX5_copyFrom 68 = .ok (.aload_n 1, 1) := by decide +kernel
theorem dX5_copyFrom_69 : decode cX5_copyFrom 69 = .ok (.getfield 25, 3) := by decide +kernel
theorem dX5_copyFrom_72 : decode cX5_copyFrom 72 = .ok (.iconst 0, 1) := by decide +kernel
theorem dX5_copyFrom_73 : decode cX5_copyFrom 73 = .ok (.aload_n 0, 1) := by decide +kernel
theorem dX5_copyFrom_74 : decode cX5_copyFrom 74 = .ok (.getfield 25, 3) := by decide +kernel
theorem dX5_copyFrom_77 : decode cX5_copyFrom 77 = .ok (.iconst 0, 1) := by decide +kernel
theorem dX5_copyFrom_78 : decode cX5_copyFrom 78 = .ok (.bipush 8, 2) := by decide +kernel
theorem dX5_copyFrom_80 : decode cX5_copyFrom 80 = .ok (.invokestatic 28, 3) := by decide +kernel
theorem dX5_copyFrom_83 : decode cX5_copyFrom 83 = .ok (.aload_n 0, 1) := by decide +kernel
theorem dX5_copyFrom_84 : decode cX5_copyFrom 84 = .ok (.aload_n 1, 1) := by decide +kernel
theorem dX5_copyFrom_85 : decode cX5_copyFrom 85 = .ok (.getfield 38, 3) := by decide +kernel
theorem dX5_copyFrom_88 : decode cX5_copyFrom 88 = .ok (.putfield 38, 3) := by decide +kernel
theorem dX5_copyFrom_91 : decode cX5_copyFrom 91 = .ok (.return_, 1) := by decide +kernel
theorem dX5_add_0 : decode cX5_add 0 = .ok (.aload_n 0, 1) := by decide +kernel
theorem dX5_add_1 : decode cX5_add 1 = .ok (.getfield 34, 3) := by decide +kernel
theorem dX5_add_4 : decode cX5_add 4 = .ok (.bipush 8, 2) := by decide +kernel
theorem dX5_add_6 : decode cX5_add 6 = .ok (.if_icmp .lt 5, 3) := by decide +kernel
theorem dX5_add_9 : decode cX5_add 9 = .ok (.iconst (-1), 1) := by decide +kernel
theorem dX5_add_10 : decode cX5_add 10 = .ok (.ireturn, 1) := by decide +kernel
theorem dX5_add_11 : decode cX5_add 11 = .ok (.aload_n 0, 1) := by decide +kernel
theorem dX5_add_12 : decode cX5_add 12 = .ok (.getfield 11, 3) := by decide +kernel
theorem dX5_add_15 : decode cX5_add 15 = .ok (.aload_n 0, 1) := by decide +kernel
theorem dX5_add_16 : decode cX5_add 16 = .ok (.getfield 34, 3) := by decide +kernel
theorem dX5_add_19 : decode cX5_add 19 = .ok (.iload_n 1, 1) := by decide +kernel
theorem dX5_add_20 : decode cX5_add 20 = .ok (.iastore, 1) := by decide +kernel
theorem dX5_add_21 : decode cX5_add 21 = .ok (.aload_n 0, 1) := by decide +kernel
theorem dX5_add_22 : decode cX5_add 22 = .ok (.dup, 1) := by decide +kernel
theorem dX5_add_23 : decode cX5_add 23 = .ok (.getfield 34, 3) := by decide +kernel
theorem dX5_add_26 : decode cX5_add 26 = .ok (.iconst 1, 1) := by decide +kernel
theorem dX5_add_27 : decode cX5_add 27 = .ok (.iadd, 1) := by decide +kernel
theorem dX5_add_28 : decode cX5_add 28 = .ok (.putfield 34, 3) := by decide +kernel
theorem dX5_add_31 : decode cX5_add 31 = .ok (.aload_n 0, 1) := by decide +kernel
theorem dX5_add_32 : decode cX5_add 32 = .ok (.getfield 34, 3) := by decide +kernel
theorem dX5_add_35 : decode cX5_add 35 = .ok (.iconst 1, 1) := by decide +kernel
theorem dX5_add_36 : decode cX5_add 36 = .ok (.isub, 1) := by decide +kernel
theorem dX5_add_37 : decode cX5_add 37 = .ok (.ireturn, 1) := by decide +kernel
theorem dX5_addProgramme_0 : decode cX5_addProgramme 0 = .ok (.aload_n 0, 1) := by decide +kernel
theorem dX5_addProgramme_1 : decode cX5_addProgramme 1 = .ok (.getfield 38, 3) := by decide +kernel
theorem dX5_addProgramme_4 : decode cX5_addProgramme 4 = .ok (.bipush 8, 2) := by decide +kernel
theorem dX5_addProgramme_6 : decode cX5_addProgramme 6 = .ok (.if_icmp .ge 43, 3) := by decide +kernel
theorem dX5_addProgramme_9 : decode cX5_addProgramme 9 = .ok (.aload_n 0, 1) := by decide +kernel
theorem dX5_addProgramme_10 : decode cX5_addProgramme 10 = .ok (.getfield 19, 3) := by decide +kernel
theorem dX5_addProgramme_13 : decode cX5_addProgramme 13 = .ok (.aload_n 0, 1) := by decide +kernel
theorem dX5_addProgramme_14 : decode cX5_addProgramme 14 = .ok (.getfield 38, 3) := by decide +kernel
theorem dX5_addProgramme_17 : decode cX5_addProgramme 17 = .ok (.iload_n 1, 1) := by decide +kernel
theorem dX5_addProgramme_18 : decode cX5_addProgramme 18 = .ok (.iastore, 1) := by decide +kernel
theorem dX5_addProgramme_19 : decode cX5_addProgramme 19 = .ok (.aload_n 0, 1) := by decide +kernel
theorem dX5_addProgramme_20 : decode cX5_addProgramme 20 = .ok (.getfield 22, 3) := by decide +kernel
theorem dX5_addProgramme_23 : decode cX5_addProgramme 23 = .ok (.aload_n 0, 1) := by decide +kernel
theorem dX5_addProgramme_24 : decode cX5_addProgramme 24 = .ok (.getfield 38, 3) := by decide +kernel
theorem dX5_addProgramme_27 : decode cX5_addProgramme 27 = .ok (.iload_n 2, 1) := by decide +kernel
theorem dX5_addProgramme_28 : decode cX5_addProgramme 28 = .ok (.iastore, 1) := by decide +kernel
theorem dX5_addProgramme_29 : decode cX5_addProgramme 29 = .ok (.aload_n 0, 1) := by decide +kernel
theorem dX5_addProgramme_30 : decode cX5_addProgramme 30 = .ok (.getfield 25, 3) := by decide +kernel
theorem dX5_addProgramme_33 : decode cX5_addProgramme 33 = .ok (.aload_n 0, 1) := by decide +kernel
theorem dX5_addProgramme_34 : decode cX5_addProgramme 34 = .ok (.getfield 38, 3) := by decide +kernel
theorem dX5_addProgramme_37 : decode cX5_addProgramme 37 = .ok (.iload_n 3, 1) := by decide +kernel
theorem dX5_addProgramme_38 : decode cX5_addProgramme 38 = .ok (.iastore, 1) := by decide +kernel
theorem dX5_addProgramme_39 : decode cX5_addProgramme 39 = .ok (.aload_n 0, 1) := by decide +kernel
theorem dX5_addProgramme_40 : decode cX5_addProgramme 40 = .ok (.dup, 1) := by decide +kernel
theorem dX5_addProgramme_41 : decode cX5_addProgramme 41 = .ok (.getfield 38, 3) := by decide +kernel
theorem dX5_addProgramme_44 : decode cX5_addProgramme 44 = .ok (.iconst 1, 1) := by decide +kernel
theorem dX5_addProgramme_45 : decode cX5_addProgramme 45 = .ok (.iadd, 1) := by decide +kernel
theorem dX5_addProgramme_46 : decode cX5_addProgramme 46 = .ok (.putfield 38, 3) := by decide +kernel
theorem dX5_addProgramme_49 : decode cX5_addProgramme 49 = .ok (.aload_n 0, 1) := by decide +kernel
theorem dX5_addProgramme_50 : decode cX5_addProgramme 50 = .ok (.getfield 38, 3) := by decide +kernel
theorem dX5_addProgramme_53 : decode cX5_addProgramme 53 = .ok (.ireturn, 1) := by decide +kernel
theorem dX5_has_0 : decode cX5_has 0 = .ok (.iload_n 1, 1) := by decide +kernel
theorem dX5_has_1 : decode cX5_has 1 = .ok (.ifCond .lt 15, 3) := by decide +kernel
theorem dX5_has_4 : decode cX5_has 4 = .ok (.iload_n 1, 1) := by decide +kernel
theorem dX5_has_5 : decode cX5_has 5 = .ok (.aload_n 0, 1) := by decide +kernel
theorem dX5_has_6 : decode cX5_has 6 = .ok (.getfield 34, 3) := by decide +kernel
theorem dX5_has_9 : decode cX5_has 9 = .ok (.if_icmp .ge 7, 3) := by decide +kernel
theorem dX5_has_12 : decode cX5_has 12 = .ok (.iconst 1, 1) := by decide +kernel
theorem dX5_has_13 : decode cX5_has 13 = .ok (.goto 4, 3) := by decide +kernel
theorem dX5_has_16 : decode cX5_has 16 = .ok (.iconst 0, 1) := by decide +kernel
theorem dX5_has_17 : decode cX5_has 17 = .ok (.ireturn, 1) := by decide +kernel
theorem dX5_openOnes_0 : decode cX5_openOnes 0 = .ok (.iconst 0, 1) := by decide +kernel
theorem dX5_openOnes_1 : decode cX5_openOnes 1 = .ok (.istore_n 1, 1) := by decide +kernel
theorem dX5_openOnes_2 : decode cX5_openOnes 2 = .ok (.iconst 0, 1) := by decide +kernel
theorem dX5_openOnes_3 : decode cX5_openOnes 3 = .ok (.istore_n 2, 1) := by decide +kernel
theorem dX5_openOnes_4 : decode cX5_openOnes 4 = .ok (.iload_n 2, 1) := by decide +kernel
theorem dX5_openOnes_5 : decode cX5_openOnes 5 = .ok (.aload_n 0, 1) := by decide +kernel
theorem dX5_openOnes_6 : decode cX5_openOnes 6 = .ok (.getfield 34, 3) := by decide +kernel
theorem dX5_openOnes_9 : decode cX5_openOnes 9 = .ok (.if_icmp .ge 26, 3) := by decide +kernel
theorem dX5_openOnes_12 : decode cX5_openOnes 12 = .ok (.iload_n 1, 1) := by decide +kernel
theorem dX5_openOnes_13 : decode cX5_openOnes 13 = .ok (.aload_n 0, 1) := by decide +kernel
theorem dX5_openOnes_14 : decode cX5_openOnes 14 = .ok (.getfield 15, 3) := by decide +kernel
theorem dX5_openOnes_17 : decode cX5_openOnes 17 = .ok (.iload_n 2, 1) := by decide +kernel
theorem dX5_openOnes_18 : decode cX5_openOnes 18 = .ok (.baload, 1) := by decide +kernel
theorem dX5_openOnes_19 : decode cX5_openOnes 19 = .ok (.ifCond .eq 7, 3) := by decide +kernel
theorem dX5_openOnes_22 : decode cX5_openOnes 22 = .ok (.iconst 1, 1) := by decide +kernel
theorem dX5_openOnes_23 : decode cX5_openOnes 23 = .ok (.goto 4, 3) := by decide +kernel
theorem dX5_openOnes_26 : decode cX5_openOnes 26 = .ok (.iconst 0, 1) := by decide +kernel
theorem dX5_openOnes_27 : decode cX5_openOnes 27 = .ok (.iadd, 1) := by decide +kernel
theorem dX5_openOnes_28 : decode cX5_openOnes 28 = .ok (.istore_n 1, 1) := by decide +kernel
theorem dX5_openOnes_29 : decode cX5_openOnes 29 = .ok (.iinc 2 1, 3) := by decide +kernel
theorem dX5_openOnes_32 : decode cX5_openOnes 32 = .ok (.goto (-28), 3) := by decide +kernel
theorem dX5_openOnes_35 : decode cX5_openOnes 35 = .ok (.iload_n 1, 1) := by decide +kernel
theorem dX5_openOnes_36 : decode cX5_openOnes 36 = .ok (.ireturn, 1) := by decide +kernel
theorem dX5_programmesOf_0 : decode cX5_programmesOf 0 = .ok (.iconst 0, 1) := by decide +kernel
theorem dX5_programmesOf_1 : decode cX5_programmesOf 1 = .ok (.istore_n 2, 1) := by decide +kernel
theorem dX5_programmesOf_2 : decode cX5_programmesOf 2 = .ok (.iconst 0, 1) := by decide +kernel
theorem dX5_programmesOf_3 : decode cX5_programmesOf 3 = .ok (.istore_n 3, 1) := by decide +kernel
theorem dX5_programmesOf_4 : decode cX5_programmesOf 4 = .ok (.iload_n 3, 1) := by decide +kernel
theorem dX5_programmesOf_5 : decode cX5_programmesOf 5 = .ok (.aload_n 0, 1) := by decide +kernel
theorem dX5_programmesOf_6 : decode cX5_programmesOf 6 = .ok (.getfield 38, 3) := by decide +kernel
theorem dX5_programmesOf_9 : decode cX5_programmesOf 9 = .ok (.if_icmp .ge 27, 3) := by decide +kernel
theorem dX5_programmesOf_12 : decode cX5_programmesOf 12 = .ok (.iload_n 2, 1) := by decide +kernel
theorem dX5_programmesOf_13 : decode cX5_programmesOf 13 = .ok (.aload_n 0, 1) := by decide +kernel
theorem dX5_programmesOf_14 : decode cX5_programmesOf 14 = .ok (.getfield 19, 3) := by decide +kernel
theorem dX5_programmesOf_17 : decode cX5_programmesOf 17 = .ok (.iload_n 3, 1) := by decide +kernel
theorem dX5_programmesOf_18 : decode cX5_programmesOf 18 = .ok (.iaload, 1) := by decide +kernel
theorem dX5_programmesOf_19 : decode cX5_programmesOf 19 = .ok (.iload_n 1, 1) := by decide +kernel
theorem dX5_programmesOf_20 : decode cX5_programmesOf 20 = .ok (.if_icmp .ne 7, 3) := by decide +kernel
theorem dX5_programmesOf_23 : decode cX5_programmesOf 23 = .ok (.iconst 1, 1) := by decide +kernel
theorem dX5_programmesOf_24 : decode cX5_programmesOf 24 = .ok (.goto 4, 3) := by decide +kernel
theorem dX5_programmesOf_27 : decode cX5_programmesOf 27 = .ok (.iconst 0, 1) := by decide +kernel
theorem dX5_programmesOf_28 : decode cX5_programmesOf 28 = .ok (.iadd, 1) := by decide +kernel
theorem dX5_programmesOf_29 : decode cX5_programmesOf 29 = .ok (.istore_n 2, 1) := by decide +kernel
theorem dX5_programmesOf_30 : decode cX5_programmesOf 30 = .ok (.iinc 3 1, 3) := by decide +kernel
theorem dX5_programmesOf_33 : decode cX5_programmesOf 33 = .ok (.goto (-29), 3) := by decide +kernel
theorem dX5_programmesOf_36 : decode cX5_programmesOf 36 = .ok (.iload_n 2, 1) := by decide +kernel
theorem dX5_programmesOf_37 : decode cX5_programmesOf 37 = .ok (.ireturn, 1) := by decide +kernel
theorem dX5_takenBy_0 : decode cX5_takenBy 0 = .ok (.aload_n 0, 1) := by decide +kernel
theorem dX5_takenBy_1 : decode cX5_takenBy 1 = .ok (.getfield 15, 3) := by decide +kernel
theorem dX5_takenBy_4 : decode cX5_takenBy 4 = .ok (.iload_n 1, 1) := by decide +kernel
theorem dX5_takenBy_5 : decode cX5_takenBy 5 = .ok (.baload, 1) := by decide +kernel
theorem dX5_takenBy_6 : decode cX5_takenBy 6 = .ok (.ifCond .eq 18, 3) := by decide +kernel
theorem dX5_takenBy_9 : decode cX5_takenBy 9 = .ok (.aload_n 0, 1) := by decide +kernel
theorem dX5_takenBy_10 : decode cX5_takenBy 10 = .ok (.getfield 11, 3) := by decide +kernel
theorem dX5_takenBy_13 : decode cX5_takenBy 13 = .ok (.iload_n 1, 1) := by decide +kernel
theorem dX5_takenBy_14 : decode cX5_takenBy 14 = .ok (.iaload, 1) := by decide +kernel
theorem dX5_takenBy_15 : decode cX5_takenBy 15 = .ok (.iload_n 2, 1) := by decide +kernel
theorem dX5_takenBy_16 : decode cX5_takenBy 16 = .ok (.imul, 1) := by decide +kernel
theorem dX5_takenBy_17 : decode cX5_takenBy 17 = .ok (.sipush 400, 3) := by decide +kernel
theorem dX5_takenBy_20 : decode cX5_takenBy 20 = .ok (.idiv, 1) := by decide +kernel
theorem dX5_takenBy_21 : decode cX5_takenBy 21 = .ok (.goto 4, 3) := by decide +kernel
theorem dX5_takenBy_24 : decode cX5_takenBy 24 = .ok (.iconst 0, 1) := by decide +kernel
theorem dX5_takenBy_25 : decode cX5_takenBy 25 = .ok (.ireturn, 1) := by decide +kernel
theorem dX5_taken_0 : decode cX5_taken 0 = .ok (.iconst 0, 1) := by decide +kernel
theorem dX5_taken_1 : decode cX5_taken 1 = .ok (.istore_n 2, 1) := by decide +kernel
theorem dX5_taken_2 : decode cX5_taken 2 = .ok (.iconst 0, 1) := by decide +kernel
theorem dX5_taken_3 : decode cX5_taken 3 = .ok (.istore_n 3, 1) := by decide +kernel
theorem dX5_taken_4 : decode cX5_taken 4 = .ok (.iload_n 3, 1) := by decide +kernel
theorem dX5_taken_5 : decode cX5_taken 5 = .ok (.aload_n 0, 1) := by decide +kernel
theorem dX5_taken_6 : decode cX5_taken 6 = .ok (.getfield 34, 3) := by decide +kernel
theorem dX5_taken_9 : decode cX5_taken 9 = .ok (.if_icmp .ge 18, 3) := by decide +kernel
theorem dX5_taken_12 : decode cX5_taken 12 = .ok (.iload_n 2, 1) := by decide +kernel
theorem dX5_taken_13 : decode cX5_taken 13 = .ok (.aload_n 0, 1) := by decide +kernel
theorem dX5_taken_14 : decode cX5_taken 14 = .ok (.iload_n 3, 1) := by decide +kernel
theorem dX5_taken_15 : decode cX5_taken 15 = .ok (.iload_n 1, 1) := by decide +kernel
theorem dX5_taken_16 : decode cX5_taken 16 = .ok (.invokevirtual 41, 3) := by decide +kernel
theorem dX5_taken_19 : decode cX5_taken 19 = .ok (.iadd, 1) := by decide +kernel
theorem dX5_taken_20 : decode cX5_taken 20 = .ok (.istore_n 2, 1) := by decide +kernel
theorem dX5_taken_21 : decode cX5_taken 21 = .ok (.iinc 3 1, 3) := by decide +kernel
theorem dX5_taken_24 : decode cX5_taken 24 = .ok (.goto (-20), 3) := by decide +kernel
theorem dX5_taken_27 : decode cX5_taken 27 = .ok (.iload_n 2, 1) := by decide +kernel
theorem dX5_taken_28 : decode cX5_taken 28 = .ok (.ireturn, 1) := by decide +kernel
theorem dX5_keepProgrammes_0 : decode cX5_keepProgrammes 0 = .ok (.iconst 0, 1) := by decide +kernel
theorem dX5_keepProgrammes_1 : decode cX5_keepProgrammes 1 = .ok (.istore_n 2, 1) := by decide +kernel
theorem dX5_keepProgrammes_2 : decode cX5_keepProgrammes 2 = .ok (.iload_n 2, 1) := by decide +kernel
theorem dX5_keepProgrammes_3 : decode cX5_keepProgrammes 3 = .ok (.aload_n 0, 1) := by decide +kernel
theorem dX5_keepProgrammes_4 : decode cX5_keepProgrammes 4 = .ok (.getfield 38, 3) := by decide +kernel
theorem dX5_keepProgrammes_7 : decode cX5_keepProgrammes 7 = .ok (.if_icmp .ge 64, 3) := by decide +kernel
theorem dX5_keepProgrammes_10 : decode cX5_keepProgrammes 10 = .ok (.aload_n 0, 1) := by decide +kernel
theorem dX5_keepProgrammes_11 : decode cX5_keepProgrammes 11 = .ok (.getfield 19, 3) := by decide +kernel
theorem dX5_keepProgrammes_14 : decode cX5_keepProgrammes 14 = .ok (.iload_n 2, 1) := by decide +kernel
theorem dX5_keepProgrammes_15 : decode cX5_keepProgrammes 15 = .ok (.iaload, 1) := by decide +kernel
theorem dX5_keepProgrammes_16 : decode cX5_keepProgrammes 16 = .ok (.istore_n 3, 1) := by decide +kernel
theorem dX5_keepProgrammes_17 : decode cX5_keepProgrammes 17 = .ok (.aload_n 0, 1) := by decide +kernel
theorem dX5_keepProgrammes_18 : decode cX5_keepProgrammes 18 = .ok (.iload_n 3, 1) := by decide +kernel
theorem dX5_keepProgrammes_19 : decode cX5_keepProgrammes 19 = .ok (.invokevirtual 45, 3) := by decide +kernel
theorem dX5_keepProgrammes_22 : decode cX5_keepProgrammes 22 = .ok (.ifCond .ne 6, 3) := by decide +kernel
theorem dX5_keepProgrammes_25 : decode cX5_keepProgrammes 25 = .ok (.goto 40, 3) := by decide +kernel
theorem dX5_keepProgrammes_28 : decode cX5_keepProgrammes 28 = .ok (.aload_n 0, 1) := by decide +kernel
theorem dX5_keepProgrammes_29 : decode cX5_keepProgrammes 29 = .ok (.getfield 22, 3) := by decide +kernel
theorem dX5_keepProgrammes_32 : decode cX5_keepProgrammes 32 = .ok (.iload_n 2, 1) := by decide +kernel
theorem dX5_keepProgrammes_33 : decode cX5_keepProgrammes 33 = .ok (.iaload, 1) := by decide +kernel
theorem dX5_keepProgrammes_34 : decode cX5_keepProgrammes 34 = .ok (.iload_n 1, 1) := by decide +kernel
theorem dX5_keepProgrammes_35 : decode cX5_keepProgrammes 35 = .ok (.if_icmp .ne 13, 3) := by decide +kernel
theorem dX5_keepProgrammes_38 : decode cX5_keepProgrammes 38 = .ok (.aload_n 0, 1) := by decide +kernel
theorem dX5_keepProgrammes_39 : decode cX5_keepProgrammes 39 = .ok (.getfield 15, 3) := by decide +kernel
theorem dX5_keepProgrammes_42 : decode cX5_keepProgrammes 42 = .ok (.iload_n 3, 1) := by decide +kernel
theorem dX5_keepProgrammes_43 : decode cX5_keepProgrammes 43 = .ok (.iconst 1, 1) := by decide +kernel
theorem dX5_keepProgrammes_44 : decode cX5_keepProgrammes 44 = .ok (.bastore, 1) := by decide +kernel
theorem dX5_keepProgrammes_45 : decode cX5_keepProgrammes 45 = .ok (.goto 20, 3) := by decide +kernel
theorem dX5_keepProgrammes_48 : decode cX5_keepProgrammes 48 = .ok (.aload_n 0, 1) := by decide +kernel
theorem dX5_keepProgrammes_49 : decode cX5_keepProgrammes 49 = .ok (.getfield 25, 3) := by decide +kernel
theorem dX5_keepProgrammes_52 : decode cX5_keepProgrammes 52 = .ok (.iload_n 2, 1) := by decide +kernel
theorem dX5_keepProgrammes_53 : decode cX5_keepProgrammes 53 = .ok (.iaload, 1) := by decide +kernel
theorem dX5_keepProgrammes_54 : decode cX5_keepProgrammes 54 = .ok (.iload_n 1, 1) := by decide +kernel
theorem dX5_keepProgrammes_55 : decode cX5_keepProgrammes 55 = .ok (.if_icmp .ne 10, 3) := by decide +kernel
theorem dX5_keepProgrammes_58 : decode cX5_keepProgrammes 58 = .ok (.aload_n 0, 1) := by decide +kernel
theorem dX5_keepProgrammes_59 : decode cX5_keepProgrammes 59 = .ok (.getfield 15, 3) := by decide +kernel
theorem dX5_keepProgrammes_62 : decode cX5_keepProgrammes 62 = .ok (.iload_n 3, 1) := by decide +kernel
theorem dX5_keepProgrammes_63 : decode cX5_keepProgrammes 63 = .ok (.iconst 0, 1) := by decide +kernel
theorem dX5_keepProgrammes_64 : decode cX5_keepProgrammes 64 = .ok (.bastore, 1) := by decide +kernel
theorem dX5_keepProgrammes_65 : decode cX5_keepProgrammes 65 = .ok (.iinc 2 1, 3) := by decide +kernel
theorem dX5_keepProgrammes_68 : decode cX5_keepProgrammes 68 = .ok (.goto (-66), 3) := by decide +kernel
theorem dX5_keepProgrammes_71 : decode cX5_keepProgrammes 71 = .ok (.return_, 1) := by decide +kernel
end
section
/-! decode rows -/
theorem dX3_init_0 : decode cX3_init 0 = .ok (.aload_n 0, 1) := by decide +kernel
theorem dX3_init_1 : decode cX3_init 1 = .ok (.invokespecial 3, 3) := by decide +kernel
theorem dX3_init_4 : decode cX3_init 4 = .ok (.aload_n 0, 1) := by decide +kernel
theorem dX3_init_5 : decode cX3_init 5 = .ok (.bipush 6, 2) := by decide +kernel
theorem dX3_init_7 : decode cX3_init 7 = .ok (.newarray .int, 2) := by decide +kernel
theorem dX3_init_9 : decode cX3_init 9 = .ok (.putfield 11, 3) := by decide +kernel
theorem dX3_init_12 : decode cX3_init 12 = .ok (.aload_n 0, 1) := by decide +kernel
theorem dX3_init_13 : decode cX3_init 13 = .ok (.bipush 6, 2) := by decide +kernel
theorem dX3_init_15 : decode cX3_init 15 = .ok (.newarray .int, 2) := by decide +kernel
theorem dX3_init_17 : decode cX3_init 17 = .ok (.putfield 15, 3) := by decide +kernel
theorem dX3_init_20 : decode cX3_init 20 = .ok (.aload_n 0, 1) := by decide +kernel
theorem dX3_init_21 : decode cX3_init 21 = .ok (.bipush 6, 2) := by decide +kernel
theorem dX3_init_23 : decode cX3_init 23 = .ok (.newarray .int, 2) := by decide +kernel
theorem dX3_init_25 : decode cX3_init 25 = .ok (.putfield 18, 3) := by decide +kernel
theorem dX3_init_28 : decode cX3_init 28 = .ok (.aload_n 0, 1) := by decide +kernel
theorem dX3_init_29 : decode cX3_init 29 = .ok (.bipush 6, 2) := by decide +kernel
theorem dX3_init_31 : decode cX3_init 31 = .ok (.newarray .boolean, 2) := by decide +kernel
theorem dX3_init_33 : decode cX3_init 33 = .ok (.putfield 21, 3) := by decide +kernel
theorem dX3_init_36 : decode cX3_init 36 = .ok (.aload_n 0, 1) := by decide +kernel
theorem dX3_init_37 : decode cX3_init 37 = .ok (.bipush 6, 2) := by decide +kernel
theorem dX3_init_39 : decode cX3_init 39 = .ok (.newarray .int, 2) := by decide +kernel
theorem dX3_init_41 : decode cX3_init 41 = .ok (.putfield 25, 3) := by decide +kernel
theorem dX3_init_44 : decode cX3_init 44 = .ok (.aload_n 0, 1) := by decide +kernel
theorem dX3_init_45 : decode cX3_init 45 = .ok (.bipush 6, 2) := by decide +kernel
theorem dX3_init_47 : decode cX3_init 47 = .ok (.newarray .int, 2) := by decide +kernel
theorem dX3_init_49 : decode cX3_init 49 = .ok (.putfield 28, 3) := by decide +kernel
theorem dX3_init_52 : decode cX3_init 52 = .ok (.aload_n 0, 1) := by decide +kernel
theorem dX3_init_53 : decode cX3_init 53 = .ok (.bipush 6, 2) := by decide +kernel
theorem dX3_init_55 : decode cX3_init 55 = .ok (.newarray .int, 2) := by decide +kernel
theorem dX3_init_57 : decode cX3_init 57 = .ok (.putfield 31, 3) := by decide +kernel
theorem dX3_init_60 : decode cX3_init 60 = .ok (.aload_n 0, 1) := by decide +kernel
theorem dX3_init_61 : decode cX3_init 61 = .ok (.bipush 6, 2) := by decide +kernel
theorem dX3_init_63 : decode cX3_init 63 = .ok (.newarray .int, 2) := by decide +kernel
theorem dX3_init_65 : decode cX3_init 65 = .ok (.putfield 34, 3) := by decide +kernel
theorem dX3_init_68 : decode cX3_init 68 = .ok (.aload_n 0, 1) := by decide +kernel
theorem dX3_init_69 : decode cX3_init 69 = .ok (.iconst (-1), 1) := by decide +kernel
theorem dX3_init_70 : decode cX3_init 70 = .ok (.putfield 37, 3) := by decide +kernel
theorem dX3_init_73 : decode cX3_init 73 = .ok (.return_, 1) := by decide +kernel
theorem dX3_copyFrom_0 : decode cX3_copyFrom 0 = .ok (.aload_n 1, 1) := by decide +kernel
theorem dX3_copyFrom_1 : decode cX3_copyFrom 1 = .ok (.getfield 11, 3) := by decide +kernel
theorem dX3_copyFrom_4 : decode cX3_copyFrom 4 = .ok (.iconst 0, 1) := by decide +kernel
theorem dX3_copyFrom_5 : decode cX3_copyFrom 5 = .ok (.aload_n 0, 1) := by decide +kernel
theorem dX3_copyFrom_6 : decode cX3_copyFrom 6 = .ok (.getfield 11, 3) := by decide +kernel
theorem dX3_copyFrom_9 : decode cX3_copyFrom 9 = .ok (.iconst 0, 1) := by decide +kernel
theorem dX3_copyFrom_10 : decode cX3_copyFrom 10 = .ok (.bipush 6, 2) := by decide +kernel
theorem dX3_copyFrom_12 : decode cX3_copyFrom 12 = .ok (.invokestatic 41, 3) := by decide +kernel
theorem dX3_copyFrom_15 : decode cX3_copyFrom 15 = .ok (.aload_n 1, 1) := by decide +kernel
theorem dX3_copyFrom_16 : decode cX3_copyFrom 16 = .ok (.getfield 15, 3) := by decide +kernel
theorem dX3_copyFrom_19 : decode cX3_copyFrom 19 = .ok (.iconst 0, 1) := by decide +kernel
theorem dX3_copyFrom_20 : decode cX3_copyFrom 20 = .ok (.aload_n 0, 1) := by decide +kernel
theorem dX3_copyFrom_21 : decode cX3_copyFrom 21 = .ok (.getfield 15, 3) := by decide +kernel
theorem dX3_copyFrom_24 : decode cX3_copyFrom 24 = .ok (.iconst 0, 1) := by decide +kernel
theorem dX3_copyFrom_25 : decode cX3_copyFrom 25 = .ok (.bipush 6, 2) := by decide +kernel
theorem dX3_copyFrom_27 : decode cX3_copyFrom 27 = .ok (.invokestatic 41, 3) := by decide +kernel
theorem dX3_copyFrom_30 : decode cX3_copyFrom 30 = .ok (.aload_n 1, 1) := by decide +kernel
theorem dX3_copyFrom_31 : decode cX3_copyFrom 31 = .ok (.getfield 18, 3) := by decide +kernel
theorem dX3_copyFrom_34 : decode cX3_copyFrom 34 = .ok (.iconst 0, 1) := by decide +kernel
theorem dX3_copyFrom_35 : decode cX3_copyFrom 35 = .ok (.aload_n 0, 1) := by decide +kernel
theorem dX3_copyFrom_36 : decode cX3_copyFrom 36 = .ok (.getfield 18, 3) := by decide +kernel
theorem dX3_copyFrom_39 : decode cX3_copyFrom 39 = .ok (.iconst 0, 1) := by decide +kernel
theorem dX3_copyFrom_40 : decode cX3_copyFrom 40 = .ok (.bipush 6, 2) := by decide +kernel
theorem dX3_copyFrom_42 : decode cX3_copyFrom 42 = .ok (.invokestatic 41, 3) := by decide +kernel
theorem dX3_copyFrom_45 : decode cX3_copyFrom 45 = .ok (.aload_n 1, 1) := by decide +kernel
theorem dX3_copyFrom_46 : decode cX3_copyFrom 46 = .ok (.getfield 21, 3) := by decide +kernel
theorem dX3_copyFrom_49 : decode cX3_copyFrom 49 = .ok (.iconst 0, 1) := by decide +kernel
theorem dX3_copyFrom_50 : decode cX3_copyFrom 50 = .ok (.aload_n 0, 1) := by decide +kernel
theorem dX3_copyFrom_51 : decode cX3_copyFrom 51 = .ok (.getfield 21, 3) := by decide +kernel
theorem dX3_copyFrom_54 : decode cX3_copyFrom 54 = .ok (.iconst 0, 1) := by decide +kernel
theorem dX3_copyFrom_55 : decode cX3_copyFrom 55 = .ok (.bipush 6, 2) := by decide +kernel
theorem dX3_copyFrom_57 : decode cX3_copyFrom 57 = .ok (.invokestatic 41, 3) := by decide +kernel
theorem dX3_copyFrom_60 : decode cX3_copyFrom 60 = .ok (.aload_n 1, 1) := by decide +kernel
theorem dX3_copyFrom_61 : decode cX3_copyFrom 61 = .ok (.getfield 25, 3) := by decide +kernel
theorem dX3_copyFrom_64 : decode cX3_copyFrom 64 = .ok (.iconst 0, 1) := by decide +kernel
theorem dX3_copyFrom_65 : decode cX3_copyFrom 65 = .ok (.aload_n 0, 1) := by decide +kernel
theorem dX3_copyFrom_66 : decode cX3_copyFrom 66 = .ok (.getfield 25, 3) := by decide +kernel
theorem dX3_copyFrom_69 : decode cX3_copyFrom 69 = .ok (.iconst 0, 1) := by decide +kernel
theorem dX3_copyFrom_70 : decode cX3_copyFrom 70 = .ok (.bipush 6, 2) := by decide +kernel
theorem dX3_copyFrom_72 : decode cX3_copyFrom 72 = .ok (.invokestatic 41, 3) := by decide +kernel
theorem dX3_copyFrom_75 : decode cX3_copyFrom 75 = .ok (.aload_n 1, 1) := by decide +kernel
theorem dX3_copyFrom_76 : decode cX3_copyFrom 76 = .ok (.getfield 28, 3) := by decide +kernel
theorem dX3_copyFrom_79 : decode cX3_copyFrom 79 = .ok (.iconst 0, 1) := by decide +kernel
theorem dX3_copyFrom_80 : decode cX3_copyFrom 80 = .ok (.aload_n 0, 1) := by decide +kernel
theorem dX3_copyFrom_81 : decode cX3_copyFrom 81 = .ok (.getfield 28, 3) := by decide +kernel
theorem dX3_copyFrom_84 : decode cX3_copyFrom 84 = .ok (.iconst 0, 1) := by decide +kernel
theorem dX3_copyFrom_85 : decode cX3_copyFrom 85 = .ok (.bipush 6, 2) := by decide +kernel
theorem dX3_copyFrom_87 : decode cX3_copyFrom 87 = .ok (.invokestatic 41, 3) := by decide +kernel
theorem dX3_copyFrom_90 : decode cX3_copyFrom 90 = .ok (.aload_n 1, 1) := by decide +kernel
theorem dX3_copyFrom_91 : decode cX3_copyFrom 91 = .ok (.getfield 31, 3) := by decide +kernel
theorem dX3_copyFrom_94 : decode cX3_copyFrom 94 = .ok (.iconst 0, 1) := by decide +kernel
theorem dX3_copyFrom_95 : decode cX3_copyFrom 95 = .ok (.aload_n 0, 1) := by decide +kernel
theorem dX3_copyFrom_96 : decode cX3_copyFrom 96 = .ok (.getfield 31, 3) := by decide +kernel
theorem dX3_copyFrom_99 : decode cX3_copyFrom 99 = .ok (.iconst 0, 1) := by decide +kernel
theorem dX3_copyFrom_100 : decode cX3_copyFrom 100 = .ok (.bipush 6, 2) := by decide +kernel
theorem dX3_copyFrom_102 : decode cX3_copyFrom 102 = .ok (.invokestatic 41, 3) := by decide +kernel
theorem dX3_copyFrom_105 : decode cX3_copyFrom 105 = .ok (.aload_n 1, 1) := by decide +kernel
theorem dX3_copyFrom_106 : decode cX3_copyFrom 106 = .ok (.getfield 34, 3) := by decide +kernel
theorem dX3_copyFrom_109 : decode cX3_copyFrom 109 = .ok (.iconst 0, 1) := by decide +kernel
theorem dX3_copyFrom_110 : decode cX3_copyFrom 110 = .ok (.aload_n 0, 1) := by decide +kernel
theorem dX3_copyFrom_111 : decode cX3_copyFrom 111 = .ok (.getfield 34, 3) := by decide +kernel
theorem dX3_copyFrom_114 : decode cX3_copyFrom 114 = .ok (.iconst 0, 1) := by decide +kernel
theorem dX3_copyFrom_115 : decode cX3_copyFrom 115 = .ok (.bipush 6, 2) := by decide +kernel
theorem dX3_copyFrom_117 : decode cX3_copyFrom 117 = .ok (.invokestatic 41, 3) := by decide +kernel
theorem dX3_copyFrom_120 : decode cX3_copyFrom 120 = .ok (.aload_n 0, 1) := by decide +kernel
theorem dX3_copyFrom_121 : decode cX3_copyFrom 121 = .ok (.aload_n 1, 1) := by decide +kernel
theorem dX3_copyFrom_122 : decode cX3_copyFrom 122 = .ok (.getfield 47, 3) := by decide +kernel
theorem dX3_copyFrom_125 : decode cX3_copyFrom 125 = .ok (.putfield 47, 3) := by decide +kernel
theorem dX3_copyFrom_128 : decode cX3_copyFrom 128 = .ok (.aload_n 0, 1) := by decide +kernel
theorem dX3_copyFrom_129 : decode cX3_copyFrom 129 = .ok (.aload_n 1, 1) := by decide +kernel
theorem dX3_copyFrom_130 : decode cX3_copyFrom 130 = .ok (.getfield 37, 3) := by decide +kernel
theorem dX3_copyFrom_133 : decode cX3_copyFrom 133 = .ok (.putfield 37, 3) := by decide +kernel
theorem dX3_copyFrom_136 : decode cX3_copyFrom 136 = .ok (.return_, 1) := by decide +kernel
theorem dX3_add_0 : decode cX3_add 0 = .ok (.aload_n 0, 1) := by decide +kernel
theorem dX3_add_1 : decode cX3_add 1 = .ok (.getfield 47, 3) := by decide +kernel
theorem dX3_add_4 : decode cX3_add 4 = .ok (.bipush 6, 2) := by decide +kernel
theorem dX3_add_6 : decode cX3_add 6 = .ok (.if_icmp .lt 5, 3) := by decide +kernel
theorem dX3_add_9 : decode cX3_add 9 = .ok (.iconst (-1), 1) := by decide +kernel
theorem dX3_add_10 : decode cX3_add 10 = .ok (.ireturn, 1) := by decide +kernel
theorem dX3_add_11 : decode cX3_add 11 = .ok (.aload_n 0, 1) := by decide +kernel
theorem dX3_add_12 : decode cX3_add 12 = .ok (.getfield 11, 3) := by decide +kernel
theorem dX3_add_15 : decode cX3_add 15 = .ok (.aload_n 0, 1) := by decide +kernel
theorem dX3_add_16 : decode cX3_add 16 = .ok (.getfield 47, 3) := by decide +kernel
theorem dX3_add_19 : decode cX3_add 19 = .ok (.iload_n 1, 1) := by decide +kernel
theorem dX3_add_20 : decode cX3_add 20 = .ok (.iastore, 1) := by decide +kernel
theorem dX3_add_21 : decode cX3_add 21 = .ok (.aload_n 0, 1) := by decide +kernel
theorem dX3_add_22 : decode cX3_add 22 = .ok (.getfield 15, 3) := by decide +kernel
theorem dX3_add_25 : decode cX3_add 25 = .ok (.aload_n 0, 1) := by decide +kernel
theorem dX3_add_26 : decode cX3_add 26 = .ok (.getfield 47, 3) := by decide +kernel
theorem dX3_add_29 : decode cX3_add 29 = .ok (.iload_n 2, 1) := by decide +kernel
theorem dX3_add_30 : decode cX3_add 30 = .ok (.iastore, 1) := by decide +kernel
theorem dX3_add_31 : decode cX3_add 31 = .ok (.aload_n 0, 1) := by decide +kernel
theorem dX3_add_32 : decode cX3_add 32 = .ok (.getfield 18, 3) := by decide +kernel
theorem dX3_add_35 : decode cX3_add 35 = .ok (.aload_n 0, 1) := by decide +kernel
theorem dX3_add_36 : decode cX3_add 36 = .ok (.getfield 47, 3) := by decide +kernel
theorem dX3_add_39 : decode cX3_add 39 = .ok (.iload_n 3, 1) := by decide +kernel
theorem dX3_add_40 : decode cX3_add 40 = .ok (.iastore, 1) := by decide +kernel
theorem dX3_add_41 : decode cX3_add 41 = .ok (.aload_n 0, 1) := by decide +kernel
theorem dX3_add_42 : decode cX3_add 42 = .ok (.getfield 21, 3) := by decide +kernel
theorem dX3_add_45 : decode cX3_add 45 = .ok (.aload_n 0, 1) := by decide +kernel
theorem dX3_add_46 : decode cX3_add 46 = .ok (.getfield 47, 3) := by decide +kernel
theorem dX3_add_49 : decode cX3_add 49 = .ok (.iconst 1, 1) := by decide +kernel
theorem dX3_add_50 : decode cX3_add 50 = .ok (.bastore, 1) := by decide +kernel
theorem dX3_add_51 : decode cX3_add 51 = .ok (.aload_n 0, 1) := by decide +kernel
theorem dX3_add_52 : decode cX3_add 52 = .ok (.dup, 1) := by decide +kernel
theorem dX3_add_53 : decode cX3_add 53 = .ok (.getfield 47, 3) := by decide +kernel
theorem dX3_add_56 : decode cX3_add 56 = .ok (.iconst 1, 1) := by decide +kernel
theorem dX3_add_57 : decode cX3_add 57 = .ok (.iadd, 1) := by decide +kernel
theorem dX3_add_58 : decode cX3_add 58 = .ok (.putfield 47, 3) := by decide +kernel
theorem dX3_add_61 : decode cX3_add 61 = .ok (.aload_n 0, 1) := by decide +kernel
theorem dX3_add_62 : decode cX3_add 62 = .ok (.getfield 47, 3) := by decide +kernel
theorem dX3_add_65 : decode cX3_add 65 = .ok (.iconst 1, 1) := by decide +kernel
theorem dX3_add_66 : decode cX3_add 66 = .ok (.isub, 1) := by decide +kernel
theorem dX3_add_67 : decode cX3_add 67 = .ok (.ireturn, 1) := by decide +kernel
theorem dX3_has_0 : decode cX3_has 0 = .ok (.iload_n 1, 1) := by decide +kernel
theorem dX3_has_1 : decode cX3_has 1 = .ok (.ifCond .lt 15, 3) := by decide +kernel
theorem dX3_has_4 : decode cX3_has 4 = .ok (.iload_n 1, 1) := by decide +kernel
theorem dX3_has_5 : decode cX3_has 5 = .ok (.aload_n 0, 1) := by decide +kernel
theorem dX3_has_6 : decode cX3_has 6 = .ok (.getfield 47, 3) := by decide +kernel
theorem dX3_has_9 : decode cX3_has 9 = .ok (.if_icmp .ge 7, 3) := by decide +kernel
theorem dX3_has_12 : decode cX3_has 12 = .ok (.iconst 1, 1) := by decide +kernel
theorem dX3_has_13 : decode cX3_has 13 = .ok (.goto 4, 3) := by decide +kernel
theorem dX3_has_16 : decode cX3_has 16 = .ok (.iconst 0, 1) := by decide +kernel
theorem dX3_has_17 : decode cX3_has 17 = .ok (.ireturn, 1) := by decide +kernel
theorem dX3_runs_0 : decode cX3_runs 0 = .ok (.aload_n 0, 1) := by decide +kernel
theorem dX3_runs_1 : decode cX3_runs 1 = .ok (.iload_n 1, 1) := by decide +kernel
theorem dX3_runs_2 : decode cX3_runs 2 = .ok (.invokevirtual 50, 3) := by decide +kernel
theorem dX3_runs_5 : decode cX3_runs 5 = .ok (.ifCond .eq 16, 3) := by decide +kernel
theorem dX3_runs_8 : decode cX3_runs 8 = .ok (.aload_n 0, 1) := by decide +kernel
theorem dX3_runs_9 : decode cX3_runs 9 = .ok (.getfield 25, 3) := by decide +kernel
theorem dX3_runs_12 : decode cX3_runs 12 = .ok (.iload_n 1, 1) := by decide +kernel
theorem dX3_runs_13 : decode cX3_runs 13 = .ok (.iaload, 1) := by decide +kernel
theorem dX3_runs_14 : decode cX3_runs 14 = .ok (.ifCond .le 7, 3) := by decide +kernel
theorem dX3_runs_17 : decode cX3_runs 17 = .ok (.iconst 1, 1) := by decide +kernel
theorem dX3_runs_18 : decode cX3_runs 18 = .ok (.goto 4, 3) := by decide +kernel
theorem dX3_runs_21 : decode cX3_runs 21 = .ok (.iconst 0, 1) := by decide +kernel
theorem dX3_runs_22 : decode cX3_runs 22 = .ok (.ireturn, 1) := by decide +kernel
theorem dX3_isReady_0 : decode cX3_isReady 0 = .ok (.aload_n 0, 1) := by decide +kernel
theorem dX3_isReady_1 : decode cX3_isReady 1 = .ok (.getfield 21, 3) := by decide +kernel
theorem dX3_isReady_4 : decode cX3_isReady 4 = .ok (.iload_n 1, 1) := by decide +kernel
theorem dX3_isReady_5 : decode cX3_isReady 5 = .ok (.baload, 1) := by decide +kernel
theorem dX3_isReady_6 : decode cX3_isReady 6 = .ok (.ifCond .eq 16, 3) := by decide +kernel
theorem dX3_isReady_9 : decode cX3_isReady 9 = .ok (.aload_n 0, 1) := by decide +kernel
theorem dX3_isReady_10 : decode cX3_isReady 10 = .ok (.getfield 25, 3) := by decide +kernel
theorem dX3_isReady_13 : decode cX3_isReady 13 = .ok (.iload_n 1, 1) := by decide +kernel
theorem dX3_isReady_14 : decode cX3_isReady 14 = .ok (.iaload, 1) := by decide +kernel
theorem dX3_isReady_15 : decode cX3_isReady 15 = .ok (.ifCond .ne 7, 3) := by decide +kernel
theorem dX3_isReady_18 : decode cX3_isReady 18 = .ok (.iconst 1, 1) := by decide +kernel
theorem dX3_isReady_19 : decode cX3_isReady 19 = .ok (.goto 4, 3) := by decide +kernel
theorem dX3_isReady_22 : decode cX3_isReady 22 = .ok (.iconst 0, 1) := by decide +kernel
theorem dX3_isReady_23 : decode cX3_isReady 23 = .ok (.ireturn, 1) := by decide +kernel
theorem dX3_hasVariable_0 : decode cX3_hasVariable 0 = .ok (.aload_n 0, 1) := by decide +kernel
theorem dX3_hasVariable_1 : decode cX3_hasVariable 1 = .ok (.aload_n 0, 1) := by decide +kernel
theorem dX3_hasVariable_2 : decode cX3_hasVariable 2 = .ok (.getfield 37, 3) := by decide +kernel
theorem dX3_hasVariable_5 : decode cX3_hasVariable 5 = .ok (.invokevirtual 50, 3) := by decide +kernel
theorem dX3_hasVariable_8 : decode cX3_hasVariable 8 = .ok (.ireturn, 1) := by decide +kernel
theorem dX3_variableAt_0 : decode cX3_variableAt 0 = .ok (.aload_n 0, 1) := by decide +kernel
theorem dX3_variableAt_1 : decode cX3_variableAt 1 = .ok (.aload_n 0, 1) := by decide +kernel
theorem dX3_variableAt_2 : decode cX3_variableAt 2 = .ok (.getfield 37, 3) := by decide +kernel
theorem dX3_variableAt_5 : decode cX3_variableAt 5 = .ok (.invokevirtual 50, 3) := by decide +kernel
theorem dX3_variableAt_8 : decode cX3_variableAt 8 = .ok (.ifCond .eq 20, 3) := by decide +kernel
theorem dX3_variableAt_11 : decode cX3_variableAt 11 = .ok (.aload_n 0, 1) := by decide +kernel
theorem dX3_variableAt_12 : decode cX3_variableAt 12 = .ok (.getfield 25, 3) := by decide +kernel
theorem dX3_variableAt_15 : decode cX3_variableAt 15 = .ok (.aload_n 0, 1) := by decide +kernel
theorem dX3_variableAt_16 : decode cX3_variableAt 16 = .ok (.getfield 37, 3) := by decide +kernel
theorem dX3_variableAt_19 : decode cX3_variableAt 19 = .ok (.iaload, 1) := by decide +kernel
theorem dX3_variableAt_20 : decode cX3_variableAt 20 = .ok (.iload_n 1, 1) := by decide +kernel
theorem dX3_variableAt_21 : decode cX3_variableAt 21 = .ok (.if_icmp .ne 7, 3) := by decide +kernel
theorem dX3_variableAt_24 : decode cX3_variableAt 24 = .ok (.iconst 1, 1) := by decide +kernel
theorem dX3_variableAt_25 : decode cX3_variableAt 25 = .ok (.goto 4, 3) := by decide +kernel
theorem dX3_variableAt_28 : decode cX3_variableAt 28 = .ok (.iconst 0, 1) := by decide +kernel
theorem dX3_variableAt_29 : decode cX3_variableAt 29 = .ok (.ireturn, 1) := by decide +kernel
theorem dX3_running_0 : decode cX3_running 0 = .ok (.iconst 0, 1) := by decide +kernel
theorem dX3_running_1 : decode cX3_running 1 = .ok (.istore_n 1, 1) := by decide +kernel
theorem dX3_running_2 : decode cX3_running 2 = .ok (.iconst 0, 1) := by decide +kernel
theorem dX3_running_3 : decode cX3_running 3 = .ok (.istore_n 2, 1) := by decide +kernel
theorem dX3_running_4 : decode cX3_running 4 = .ok (.iload_n 2, 1) := by decide +kernel
theorem dX3_running_5 : decode cX3_running 5 = .ok (.aload_n 0, 1) := by decide +kernel
theorem dX3_running_6 : decode cX3_running 6 = .ok (.getfield 47, 3) := by decide +kernel
theorem dX3_running_9 : decode cX3_running 9 = .ok (.if_icmp .ge 26, 3) := by decide +kernel
theorem dX3_running_12 : decode cX3_running 12 = .ok (.iload_n 1, 1) := by decide +kernel
theorem dX3_running_13 : decode cX3_running 13 = .ok (.aload_n 0, 1) := by decide +kernel
theorem dX3_running_14 : decode cX3_running 14 = .ok (.getfield 25, 3) := by decide +kernel
theorem dX3_running_17 : decode cX3_running 17 = .ok (.iload_n 2, 1) := by decide +kernel
theorem dX3_running_18 : decode cX3_running 18 = .ok (.iaload, 1) := by decide +kernel
theorem dX3_running_19 : decode cX3_running 19 = .ok (.ifCond .le 7, 3) := by decide +kernel
theorem dX3_running_22 : decode cX3_running 22 = .ok (.iconst 1, 1) := by decide +kernel
theorem dX3_running_23 : decode cX3_running 23 = .ok (.goto 4, 3) := by decide +kernel
theorem dX3_running_26 : decode cX3_running 26 = .ok (.iconst 0, 1) := by decide +kernel
theorem dX3_running_27 : decode cX3_running 27 = .ok (.iadd, 1) := by decide +kernel
theorem dX3_running_28 : decode cX3_running 28 = .ok (.istore_n 1, 1) := by decide +kernel
theorem dX3_running_29 : decode cX3_running 29 = .ok (.iinc 2 1, 3) := by decide +kernel
theorem dX3_running_32 : decode cX3_running 32 = .ok (.goto (-28), 3) := by decide +kernel
theorem dX3_running_35 : decode cX3_running 35 = .ok (.iload_n 1, 1) := by decide +kernel
theorem dX3_running_36 : decode cX3_running 36 = .ok (.ireturn, 1) := by decide +kernel
theorem dX3_readyOnes_0 : decode cX3_readyOnes 0 = .ok (.iconst 0, 1) := by decide +kernel
theorem dX3_readyOnes_1 : decode cX3_readyOnes 1 = .ok (.istore_n 1, 1) := by decide +kernel
theorem dX3_readyOnes_2 : decode cX3_readyOnes 2 = .ok (.iconst 0, 1) := by decide +kernel
theorem dX3_readyOnes_3 : decode cX3_readyOnes 3 = .ok (.istore_n 2, 1) := by decide +kernel
theorem dX3_readyOnes_4 : decode cX3_readyOnes 4 = .ok (.iload_n 2, 1) := by decide +kernel
theorem dX3_readyOnes_5 : decode cX3_readyOnes 5 = .ok (.aload_n 0, 1) := by decide +kernel
theorem dX3_readyOnes_6 : decode cX3_readyOnes 6 = .ok (.getfield 47, 3) := by decide +kernel
theorem dX3_readyOnes_9 : decode cX3_readyOnes 9 = .ok (.if_icmp .ge 25, 3) := by decide +kernel
theorem dX3_readyOnes_12 : decode cX3_readyOnes 12 = .ok (.iload_n 1, 1) := by decide +kernel
theorem dX3_readyOnes_13 : decode cX3_readyOnes 13 = .ok (.aload_n 0, 1) := by decide +kernel
theorem dX3_readyOnes_14 : decode cX3_readyOnes 14 = .ok (.iload_n 2, 1) := by decide +kernel
theorem dX3_readyOnes_15 : decode cX3_readyOnes 15 = .ok (.invokevirtual 54, 3) := by decide +kernel
theorem dX3_readyOnes_18 : decode cX3_readyOnes 18 = .ok (.ifCond .eq 7, 3) := by decide +kernel
theorem dX3_readyOnes_21 : decode cX3_readyOnes 21 = .ok (.iconst 1, 1) := by decide +kernel
theorem dX3_readyOnes_22 : decode cX3_readyOnes 22 = .ok (.goto 4, 3) := by decide +kernel
theorem dX3_readyOnes_25 : decode cX3_readyOnes 25 = .ok (.iconst 0, 1) := by decide +kernel
theorem dX3_readyOnes_26 : decode cX3_readyOnes 26 = .ok (.iadd, 1) := by decide +kernel
theorem dX3_readyOnes_27 : decode cX3_readyOnes 27 = .ok (.istore_n 1, 1) := by decide +kernel
theorem dX3_readyOnes_28 : decode cX3_readyOnes 28 = .ok (.iinc 2 1, 3) := by decide +kernel
theorem dX3_readyOnes_31 : decode cX3_readyOnes 31 = .ok (.goto (-27), 3) := by decide +kernel
theorem dX3_readyOnes_34 : decode cX3_readyOnes 34 = .ok (.iload_n 1, 1) := by decide +kernel
theorem dX3_readyOnes_35 : decode cX3_readyOnes 35 = .ok (.ireturn, 1) := by decide +kernel
theorem dX3_differenceOfMinutes_0 : decode cX3_differenceOfMinutes 0 = .ok (.aload_n 0, 1) := by decide +kernel
theorem dX3_differenceOfMinutes_1 : decode cX3_differenceOfMinutes 1 = .ok (.getfield 28, 3) := by decide +kernel
theorem dX3_differenceOfMinutes_4 : decode cX3_differenceOfMinutes 4 = .ok (.iconst 0, 1) := by decide +kernel
theorem dX3_differenceOfMinutes_5 : decode cX3_differenceOfMinutes 5 = .ok (.iaload, 1) := by decide +kernel
theorem dX3_differenceOfMinutes_6 : decode cX3_differenceOfMinutes 6 = .ok (.istore_n 1, 1) := by decide +kernel
theorem dX3_differenceOfMinutes_7 : decode cX3_differenceOfMinutes 7 = .ok (.aload_n 0, 1) := by decide +kernel
theorem dX3_differenceOfMinutes_8 : decode cX3_differenceOfMinutes 8 = .ok (.getfield 28, 3) := by decide +kernel
theorem dX3_differenceOfMinutes_11 : decode cX3_differenceOfMinutes 11 = .ok (.iconst 0, 1) := by decide +kernel
theorem dX3_differenceOfMinutes_12 : decode cX3_differenceOfMinutes 12 = .ok (.iaload, 1) := by decide +kernel
theorem dX3_differenceOfMinutes_13 : decode cX3_differenceOfMinutes 13 = .ok (.istore_n 2, 1) := by decide +kernel
theorem dX3_differenceOfMinutes_14 : decode cX3_differenceOfMinutes 14 = .ok (.iconst 1, 1) := by decide +kernel
theorem dX3_differenceOfMinutes_15 : decode cX3_differenceOfMinutes 15 = .ok (.istore_n 3, 1) := by decide +kernel
theorem dX3_differenceOfMinutes_16 : decode cX3_differenceOfMinutes 16 = .ok (.iload_n 3, 1) := by decide +kernel
theorem dX3_differenceOfMinutes_17 : decode cX3_differenceOfMinutes 17 = .ok (.aload_n 0, 1) := by decide +kernel
theorem dX3_differenceOfMinutes_18 : decode cX3_differenceOfMinutes 18 = .ok (.getfield 47, 3) := by decide +kernel
theorem dX3_differenceOfMinutes_21 : decode cX3_differenceOfMinutes 21 = .ok (.if_icmp .ge 31, 3) := by decide +kernel
theorem dX3_differenceOfMinutes_24 : decode cX3_differenceOfMinutes 24 = .ok (.iload_n 1, 1) := by decide +kernel
theorem dX3_differenceOfMinutes_25 : decode cX3_differenceOfMinutes 25 = .ok (.aload_n 0, 1) := by decide +kernel
theorem dX3_differenceOfMinutes_26 : decode cX3_differenceOfMinutes 26 = .ok (.getfield 28, 3) := by decide +kernel
theorem dX3_differenceOfMinutes_29 : decode cX3_differenceOfMinutes 29 = .ok (.iload_n 3, 1) := by decide +kernel
theorem dX3_differenceOfMinutes_30 : decode cX3_differenceOfMinutes 30 = .ok (.iaload, 1) := by decide +kernel
theorem dX3_differenceOfMinutes_31 : decode cX3_differenceOfMinutes 31 = .ok (.invokestatic 57, 3) := by decide +kernel
theorem dX3_differenceOfMinutes_34 : decode cX3_differenceOfMinutes 34 = .ok (.istore_n 1, 1) := by decide +kernel
theorem dX3_differenceOfMinutes_35 : decode cX3_differenceOfMinutes 35 = .ok (.iload_n 2, 1) := by decide +kernel
theorem dX3_differenceOfMinutes_36 : decode cX3_differenceOfMinutes 36 = .ok (.aload_n 0, 1) := by decide +kernel
theorem dX3_differenceOfMinutes_37 : decode cX3_differenceOfMinutes 37 = .ok (.getfield 28, 3) := by decide +kernel
theorem dX3_differenceOfMinutes_40 : decode cX3_differenceOfMinutes 40 = .ok (.iload_n 3, 1) := by decide +kernel
theorem dX3_differenceOfMinutes_41 : decode cX3_differenceOfMinutes 41 = .ok (.iaload, 1) := by decide +kernel
theorem dX3_differenceOfMinutes_42 : decode cX3_differenceOfMinutes 42 = .ok (.invokestatic 63, 3) := by decide +kernel
theorem dX3_differenceOfMinutes_45 : decode cX3_differenceOfMinutes 45 = .ok (.istore_n 2, 1) := by decide +kernel
theorem dX3_differenceOfMinutes_46 : decode cX3_differenceOfMinutes 46 = .ok (.iinc 3 1, 3) := by decide +kernel
theorem dX3_differenceOfMinutes_49 : decode cX3_differenceOfMinutes 49 = .ok (.goto (-33), 3) := by decide +kernel
theorem dX3_differenceOfMinutes_52 : decode cX3_differenceOfMinutes 52 = .ok (.iload_n 2, 1) := by decide +kernel
theorem dX3_differenceOfMinutes_53 : decode cX3_differenceOfMinutes 53 = .ok (.iload_n 1, 1) := by decide +kernel
theorem dX3_differenceOfMinutes_54 : decode cX3_differenceOfMinutes 54 = .ok (.isub, 1) := by decide +kernel
theorem dX3_differenceOfMinutes_55 : decode cX3_differenceOfMinutes 55 = .ok (.ireturn, 1) := by decide +kernel
theorem dX3_flowOf_0 : decode cX3_flowOf 0 = .ok (.aload_n 0, 1) := by decide +kernel
theorem dX3_flowOf_1 : decode cX3_flowOf 1 = .ok (.getfield 15, 3) := by decide +kernel
theorem dX3_flowOf_4 : decode cX3_flowOf 4 = .ok (.iload_n 1, 1) := by decide +kernel
theorem dX3_flowOf_5 : decode cX3_flowOf 5 = .ok (.iaload, 1) := by decide +kernel
theorem dX3_flowOf_6 : decode cX3_flowOf 6 = .ok (.iload_n 2, 1) := by decide +kernel
theorem dX3_flowOf_7 : decode cX3_flowOf 7 = .ok (.imul, 1) := by decide +kernel
theorem dX3_flowOf_8 : decode cX3_flowOf 8 = .ok (.iload_n 2, 1) := by decide +kernel
theorem dX3_flowOf_9 : decode cX3_flowOf 9 = .ok (.imul, 1) := by decide +kernel
theorem dX3_flowOf_10 : decode cX3_flowOf 10 = .ok (.ldc 66, 2) := by decide +kernel
theorem dX3_flowOf_12 : decode cX3_flowOf 12 = .ok (.idiv, 1) := by decide +kernel
theorem dX3_flowOf_13 : decode cX3_flowOf 13 = .ok (.istore 4, 2) := by decide +kernel
theorem dX3_flowOf_15 : decode cX3_flowOf 15 = .ok (.aload_n 0, 1) := by decide +kernel
theorem dX3_flowOf_16 : decode cX3_flowOf 16 = .ok (.getfield 18, 3) := by decide +kernel
theorem dX3_flowOf_19 : decode cX3_flowOf 19 = .ok (.iload_n 1, 1) := by decide +kernel
theorem dX3_flowOf_20 : decode cX3_flowOf 20 = .ok (.iaload, 1) := by decide +kernel
theorem dX3_flowOf_21 : decode cX3_flowOf 21 = .ok (.istore 5, 2) := by decide +kernel
theorem dX3_flowOf_23 : decode cX3_flowOf 23 = .ok (.iload 4, 2) := by decide +kernel
theorem dX3_flowOf_25 : decode cX3_flowOf 25 = .ok (.iload_n 3, 1) := by decide +kernel
theorem dX3_flowOf_26 : decode cX3_flowOf 26 = .ok (.if_icmp .le 8, 3) := by decide +kernel
theorem dX3_flowOf_29 : decode cX3_flowOf 29 = .ok (.iload 5, 2) := by decide +kernel
theorem dX3_flowOf_31 : decode cX3_flowOf 31 = .ok (.ifCond .gt 5, 3) := by decide +kernel
theorem dX3_flowOf_34 : decode cX3_flowOf 34 = .ok (.iconst 0, 1) := by decide +kernel
theorem dX3_flowOf_35 : decode cX3_flowOf 35 = .ok (.ireturn, 1) := by decide +kernel
theorem dX3_flowOf_36 : decode cX3_flowOf 36 = .ok (.iload 4, 2) := by decide +kernel
theorem dX3_flowOf_38 : decode cX3_flowOf 38 = .ok (.iload_n 3, 1) := by decide +kernel
theorem dX3_flowOf_39 : decode cX3_flowOf 39 = .ok (.isub, 1) := by decide +kernel
theorem dX3_flowOf_40 : decode cX3_flowOf 40 = .ok (.sipush 1000, 3) := by decide +kernel
theorem dX3_flowOf_43 : decode cX3_flowOf 43 = .ok (.imul, 1) := by decide +kernel
theorem dX3_flowOf_44 : decode cX3_flowOf 44 = .ok (.iload 5, 2) := by decide +kernel
theorem dX3_flowOf_46 : decode cX3_flowOf 46 = .ok (.idiv, 1) := by decide +kernel
theorem dX3_flowOf_47 : decode cX3_flowOf 47 = .ok (.invokestatic 67, 3) := by decide +kernel
theorem dX3_flowOf_50 : decode cX3_flowOf 50 = .ok (.ireturn, 1) := by decide +kernel
theorem dX3_flow_0 : decode cX3_flow 0 = .ok (.iconst 0, 1) := by decide +kernel
theorem dX3_flow_1 : decode cX3_flow 1 = .ok (.istore_n 2, 1) := by decide +kernel
theorem dX3_flow_2 : decode cX3_flow 2 = .ok (.iconst 0, 1) := by decide +kernel
theorem dX3_flow_3 : decode cX3_flow 3 = .ok (.istore_n 3, 1) := by decide +kernel
theorem dX3_flow_4 : decode cX3_flow 4 = .ok (.iload_n 3, 1) := by decide +kernel
theorem dX3_flow_5 : decode cX3_flow 5 = .ok (.aload_n 0, 1) := by decide +kernel
theorem dX3_flow_6 : decode cX3_flow 6 = .ok (.getfield 47, 3) := by decide +kernel
theorem dX3_flow_9 : decode cX3_flow 9 = .ok (.if_icmp .ge 24, 3) := by decide +kernel
theorem dX3_flow_12 : decode cX3_flow 12 = .ok (.iload_n 2, 1) := by decide +kernel
theorem dX3_flow_13 : decode cX3_flow 13 = .ok (.aload_n 0, 1) := by decide +kernel
theorem dX3_flow_14 : decode cX3_flow 14 = .ok (.iload_n 3, 1) := by decide +kernel
theorem dX3_flow_15 : decode cX3_flow 15 = .ok (.aload_n 0, 1) := by decide +kernel
theorem dX3_flow_16 : decode cX3_flow 16 = .ok (.getfield 25, 3) := by decide +kernel
theorem dX3_flow_19 : decode cX3_flow 19 = .ok (.iload_n 3, 1) := by decide +kernel
theorem dX3_flow_20 : decode cX3_flow 20 = .ok (.iaload, 1) := by decide +kernel
theorem dX3_flow_21 : decode cX3_flow 21 = .ok (.iload_n 1, 1) := by decide +kernel
theorem dX3_flow_22 : decode cX3_flow 22 = .ok (.invokevirtual 71, 3) := by decide +kernel
theorem dX3_flow_25 : decode cX3_flow 25 = .ok (.iadd, 1) := by decide +kernel
theorem dX3_flow_26 : decode cX3_flow 26 = .ok (.istore_n 2, 1) := by decide +kernel
theorem dX3_flow_27 : decode cX3_flow 27 = .ok (.iinc 3 1, 3) := by decide +kernel
theorem dX3_flow_30 : decode cX3_flow 30 = .ok (.goto (-26), 3) := by decide +kernel
theorem dX3_flow_33 : decode cX3_flow 33 = .ok (.iload_n 2, 1) := by decide +kernel
theorem dX3_flow_34 : decode cX3_flow 34 = .ok (.ireturn, 1) := by decide +kernel
theorem dX3_root_0 : decode cX3_root 0 = .ok (.iconst 0, 1) := by decide +kernel
theorem dX3_root_1 : decode cX3_root 1 = .ok (.istore_n 1, 1) := by decide +kernel
theorem dX3_root_2 : decode cX3_root 2 = .ok (.sipush 1024, 3) := by decide +kernel
theorem dX3_root_5 : decode cX3_root 5 = .ok (.istore_n 2, 1) := by decide +kernel
theorem dX3_root_6 : decode cX3_root 6 = .ok (.iload_n 2, 1) := by decide +kernel
theorem dX3_root_7 : decode cX3_root 7 = .ok (.ifCond .le 23, 3) := by decide +kernel
theorem dX3_root_10 : decode cX3_root 10 = .ok (.iload_n 1, 1) := by decide +kernel
theorem dX3_root_11 : decode cX3_root 11 = .ok (.iload_n 2, 1) := by decide +kernel
theorem dX3_root_12 : decode cX3_root 12 = .ok (.iadd, 1) := by decide +kernel
theorem dX3_root_13 : decode cX3_root 13 = .ok (.istore_n 3, 1) := by decide +kernel
theorem dX3_root_14 : decode cX3_root 14 = .ok (.iload_n 3, 1) := by decide +kernel
theorem dX3_root_15 : decode cX3_root 15 = .ok (.iload_n 3, 1) := by decide +kernel
theorem dX3_root_16 : decode cX3_root 16 = .ok (.imul, 1) := by decide +kernel
theorem dX3_root_17 : decode cX3_root 17 = .ok (.iload_n 0, 1) := by decide +kernel
theorem dX3_root_18 : decode cX3_root 18 = .ok (.if_icmp .gt 5, 3) := by decide +kernel
theorem dX3_root_21 : decode cX3_root 21 = .ok (.iload_n 3, 1) := by decide +kernel
theorem dX3_root_22 : decode cX3_root 22 = .ok (.istore_n 1, 1) := by decide +kernel
theorem dX3_root_23 : decode cX3_root 23 = .ok (.iload_n 2, 1) := by decide +kernel
theorem dX3_root_24 : decode cX3_root 24 = .ok (.iconst 2, 1) := by decide +kernel
theorem dX3_root_25 : decode cX3_root 25 = .ok (.idiv, 1) := by decide +kernel
theorem dX3_root_26 : decode cX3_root 26 = .ok (.istore_n 2, 1) := by decide +kernel
theorem dX3_root_27 : decode cX3_root 27 = .ok (.goto (-21), 3) := by decide +kernel
theorem dX3_root_30 : decode cX3_root 30 = .ok (.iload_n 1, 1) := by decide +kernel
theorem dX3_root_31 : decode cX3_root 31 = .ok (.ireturn, 1) := by decide +kernel
theorem dX3_countMinute_0 : decode cX3_countMinute 0 = .ok (.iconst 0, 1) := by decide +kernel
theorem dX3_countMinute_1 : decode cX3_countMinute 1 = .ok (.istore_n 1, 1) := by decide +kernel
theorem dX3_countMinute_2 : decode cX3_countMinute 2 = .ok (.iload_n 1, 1) := by decide +kernel
theorem dX3_countMinute_3 : decode cX3_countMinute 3 = .ok (.aload_n 0, 1) := by decide +kernel
theorem dX3_countMinute_4 : decode cX3_countMinute 4 = .ok (.getfield 47, 3) := by decide +kernel
theorem dX3_countMinute_7 : decode cX3_countMinute 7 = .ok (.if_icmp .ge 38, 3) := by decide +kernel
theorem dX3_countMinute_10 : decode cX3_countMinute 10 = .ok (.aload_n 0, 1) := by decide +kernel
theorem dX3_countMinute_11 : decode cX3_countMinute 11 = .ok (.getfield 25, 3) := by decide +kernel
theorem dX3_countMinute_14 : decode cX3_countMinute 14 = .ok (.iload_n 1, 1) := by decide +kernel
theorem dX3_countMinute_15 : decode cX3_countMinute 15 = .ok (.iaload, 1) := by decide +kernel
theorem dX3_countMinute_16 : decode cX3_countMinute 16 = .ok (.ifCond .le 23, 3) := by decide +kernel
theorem dX3_countMinute_19 : decode cX3_countMinute 19 = .ok (.aload_n 0, 1) := by decide +kernel
theorem dX3_countMinute_20 : decode cX3_countMinute 20 = .ok (.getfield 28, 3) := by decide +kernel
theorem dX3_countMinute_23 : decode cX3_countMinute 23 = .ok (.iload_n 1, 1) := by decide +kernel
theorem dX3_countMinute_24 : decode cX3_countMinute 24 = .ok (.dup2, 1) := by decide +kernel
theorem dX3_countMinute_25 : decode cX3_countMinute 25 = .ok (.iaload, 1) := by decide +kernel
theorem dX3_countMinute_26 : decode cX3_countMinute 26 = .ok (.iconst 1, 1) := by decide +kernel
theorem dX3_countMinute_27 : decode cX3_countMinute 27 = .ok (.iadd, 1) := by decide +kernel
theorem dX3_countMinute_28 : decode cX3_countMinute 28 = .ok (.iastore, 1) := by decide +kernel
theorem dX3_countMinute_29 : decode cX3_countMinute 29 = .ok (.aload_n 0, 1) := by decide +kernel
theorem dX3_countMinute_30 : decode cX3_countMinute 30 = .ok (.getfield 31, 3) := by decide +kernel
theorem dX3_countMinute_33 : decode cX3_countMinute 33 = .ok (.iload_n 1, 1) := by decide +kernel
theorem dX3_countMinute_34 : decode cX3_countMinute 34 = .ok (.dup2, 1) := by decide +kernel
theorem dX3_countMinute_35 : decode cX3_countMinute 35 = .ok (.iaload, 1) := by decide +kernel
theorem dX3_countMinute_36 : decode cX3_countMinute 36 = .ok (.iconst 1, 1) := by decide +kernel
theorem dX3_countMinute_37 : decode cX3_countMinute 37 = .ok (.iadd, 1) := by decide +kernel
theorem dX3_countMinute_38 : decode cX3_countMinute 38 = .ok (.iastore, 1) := by decide +kernel
theorem dX3_countMinute_39 : decode cX3_countMinute 39 = .ok (.iinc 1 1, 3) := by decide +kernel
theorem dX3_countMinute_42 : decode cX3_countMinute 42 = .ok (.goto (-40), 3) := by decide +kernel
theorem dX3_countMinute_45 : decode cX3_countMinute 45 = .ok (.return_, 1) := by decide +kernel
theorem dX3_readyInOrder_0 : decode cX3_readyInOrder 0 = .ok (.aload_n 0, 1) := by decide +kernel
theorem dX3_readyInOrder_1 : decode cX3_readyInOrder 1 = .ok (.invokevirtual 75, 3) := by decide +kernel
theorem dX3_readyInOrder_4 : decode cX3_readyInOrder 4 = .ok (.ifCond .ne 7, 3) := by decide +kernel
theorem dX3_readyInOrder_7 : decode cX3_readyInOrder 7 = .ok (.iconst 1, 1) := by decide +kernel
theorem dX3_readyInOrder_8 : decode cX3_readyInOrder 8 = .ok (.goto 4, 3) := by decide +kernel
theorem dX3_readyInOrder_11 : decode cX3_readyInOrder 11 = .ok (.iconst 0, 1) := by decide +kernel
theorem dX3_readyInOrder_12 : decode cX3_readyInOrder 12 = .ok (.istore_n 2, 1) := by decide +kernel
theorem dX3_readyInOrder_13 : decode cX3_readyInOrder 13 = .ok (.iconst 0, 1) := by decide +kernel
theorem dX3_readyInOrder_14 : decode cX3_readyInOrder 14 = .ok (.istore_n 3, 1) := by decide +kernel
theorem dX3_readyInOrder_15 : decode cX3_readyInOrder 15 = .ok (.iload_n 3, 1) := by decide +kernel
theorem dX3_readyInOrder_16 : decode cX3_readyInOrder 16 = .ok (.aload_n 0, 1) := by decide +kernel
theorem dX3_readyInOrder_17 : decode cX3_readyInOrder 17 = .ok (.getfield 47, 3) := by decide +kernel
theorem dX3_readyInOrder_20 : decode cX3_readyInOrder 20 = .ok (.if_icmp .ge 29, 3) := by decide +kernel
theorem dX3_readyInOrder_23 : decode cX3_readyInOrder 23 = .ok (.aload_n 0, 1) := by decide +kernel
theorem dX3_readyInOrder_24 : decode cX3_readyInOrder 24 = .ok (.iload_n 3, 1) := by decide +kernel
theorem dX3_readyInOrder_25 : decode cX3_readyInOrder 25 = .ok (.invokevirtual 54, 3) := by decide +kernel
theorem dX3_readyInOrder_28 : decode cX3_readyInOrder 28 = .ok (.ifCond .eq 15, 3) := by decide +kernel
theorem dX3_readyInOrder_31 : decode cX3_readyInOrder 31 = .ok (.aload_n 0, 1) := by decide +kernel
theorem dX3_readyInOrder_32 : decode cX3_readyInOrder 32 = .ok (.iload_n 3, 1) := by decide +kernel
theorem dX3_readyInOrder_33 : decode cX3_readyInOrder 33 = .ok (.iload_n 2, 1) := by decide +kernel
theorem dX3_readyInOrder_34 : decode cX3_readyInOrder 34 = .ok (.invokevirtual 79, 3) := by decide +kernel
theorem dX3_readyInOrder_37 : decode cX3_readyInOrder 37 = .ok (.iload_n 1, 1) := by decide +kernel
theorem dX3_readyInOrder_38 : decode cX3_readyInOrder 38 = .ok (.if_icmp .ne 5, 3) := by decide +kernel
theorem dX3_readyInOrder_41 : decode cX3_readyInOrder 41 = .ok (.iload_n 3, 1) := by decide +kernel
theorem dX3_readyInOrder_42 : decode cX3_readyInOrder 42 = .ok (.ireturn, 1) := by decide +kernel
theorem dX3_readyInOrder_43 : decode cX3_readyInOrder 43 = .ok (.iinc 3 1, 3) := by decide +kernel
theorem dX3_readyInOrder_46 : decode cX3_readyInOrder 46 = .ok (.goto (-31), 3) := by decide +kernel
theorem dX3_readyInOrder_49 : decode cX3_readyInOrder 49 = .ok (.iconst (-1), 1) := by decide +kernel
theorem dX3_readyInOrder_50 : decode cX3_readyInOrder 50 = .ok (.ireturn, 1) := by decide +kernel
theorem dX3_readyAhead_0 : decode cX3_readyAhead 0 = .ok (.iconst 0, 1) := by decide +kernel
theorem dX3_readyAhead_1 : decode cX3_readyAhead 1 = .ok (.istore_n 3, 1) := by decide +kernel
theorem dX3_readyAhead_2 : decode cX3_readyAhead 2 = .ok (.iconst 0, 1) := by decide +kernel
theorem dX3_readyAhead_3 : decode cX3_readyAhead 3 = .ok (.istore 4, 2) := by decide +kernel
theorem dX3_readyAhead_5 : decode cX3_readyAhead 5 = .ok (.iload 4, 2) := by decide +kernel
theorem dX3_readyAhead_7 : decode cX3_readyAhead 7 = .ok (.aload_n 0, 1) := by decide +kernel
theorem dX3_readyAhead_8 : decode cX3_readyAhead 8 = .ok (.getfield 47, 3) := by decide +kernel
theorem dX3_readyAhead_11 : decode cX3_readyAhead 11 = .ok (.if_icmp .ge 37, 3) := by decide +kernel
theorem dX3_readyAhead_14 : decode cX3_readyAhead 14 = .ok (.iload_n 3, 1) := by decide +kernel
theorem dX3_readyAhead_15 : decode cX3_readyAhead 15 = .ok (.aload_n 0, 1) := by decide +kernel
theorem dX3_readyAhead_16 : decode cX3_readyAhead 16 = .ok (.iload 4, 2) := by decide +kernel
theorem dX3_readyAhead_18 : decode cX3_readyAhead 18 = .ok (.invokevirtual 54, 3) := by decide +kernel
theorem dX3_readyAhead_21 : decode cX3_readyAhead 21 = .ok (.ifCond .eq 18, 3) := by decide +kernel
theorem dX3_readyAhead_24 : decode cX3_readyAhead 24 = .ok (.aload_n 0, 1) := by decide +kernel
theorem dX3_readyAhead_25 : decode cX3_readyAhead 25 = .ok (.iload 4, 2) := by decide +kernel
theorem dX3_readyAhead_27 : decode cX3_readyAhead 27 = .ok (.iload_n 1, 1) := by decide +kernel
theorem dX3_readyAhead_28 : decode cX3_readyAhead 28 = .ok (.iload_n 2, 1) := by decide +kernel
theorem dX3_readyAhead_29 : decode cX3_readyAhead 29 = .ok (.invokevirtual 83, 3) := by decide +kernel
theorem dX3_readyAhead_32 : decode cX3_readyAhead 32 = .ok (.ifCond .eq 7, 3) := by decide +kernel
theorem dX3_readyAhead_35 : decode cX3_readyAhead 35 = .ok (.iconst 1, 1) := by decide +kernel
theorem dX3_readyAhead_36 : decode cX3_readyAhead 36 = .ok (.goto 4, 3) := by decide +kernel
theorem dX3_readyAhead_39 : decode cX3_readyAhead 39 = .ok (.iconst 0, 1) := by decide +kernel
theorem dX3_readyAhead_40 : decode cX3_readyAhead 40 = .ok (.iadd, 1) := by decide +kernel
theorem dX3_readyAhead_41 : decode cX3_readyAhead 41 = .ok (.istore_n 3, 1) := by decide +kernel
theorem dX3_readyAhead_42 : decode cX3_readyAhead 42 = .ok (.iinc 4 1, 3) := by decide +kernel
theorem dX3_readyAhead_45 : decode cX3_readyAhead 45 = .ok (.goto (-40), 3) := by decide +kernel
theorem dX3_readyAhead_48 : decode cX3_readyAhead 48 = .ok (.iload_n 3, 1) := by decide +kernel
theorem dX3_readyAhead_49 : decode cX3_readyAhead 49 = .ok (.ireturn, 1) := by decide +kernel
theorem dX3_isAhead_0 : decode cX3_isAhead 0 = .ok (.aload_n 0, 1) := by decide +kernel
theorem dX3_isAhead_1 : decode cX3_isAhead 1 = .ok (.getfield 11, 3) := by decide +kernel
theorem dX3_isAhead_4 : decode cX3_isAhead 4 = .ok (.iload_n 1, 1) := by decide +kernel
theorem dX3_isAhead_5 : decode cX3_isAhead 5 = .ok (.iaload, 1) := by decide +kernel
theorem dX3_isAhead_6 : decode cX3_isAhead 6 = .ok (.iconst 2, 1) := by decide +kernel
theorem dX3_isAhead_7 : decode cX3_isAhead 7 = .ok (.if_icmp .ne 7, 3) := by decide +kernel
theorem dX3_isAhead_10 : decode cX3_isAhead 10 = .ok (.iconst 1, 1) := by decide +kernel
theorem dX3_isAhead_11 : decode cX3_isAhead 11 = .ok (.goto 4, 3) := by decide +kernel
theorem dX3_isAhead_14 : decode cX3_isAhead 14 = .ok (.iconst 0, 1) := by decide +kernel
theorem dX3_isAhead_15 : decode cX3_isAhead 15 = .ok (.istore 4, 2) := by decide +kernel
theorem dX3_isAhead_17 : decode cX3_isAhead 17 = .ok (.iload 4, 2) := by decide +kernel
theorem dX3_isAhead_19 : decode cX3_isAhead 19 = .ok (.aload_n 0, 1) := by decide +kernel
theorem dX3_isAhead_20 : decode cX3_isAhead 20 = .ok (.getfield 11, 3) := by decide +kernel
theorem dX3_isAhead_23 : decode cX3_isAhead 23 = .ok (.iload_n 2, 1) := by decide +kernel
theorem dX3_isAhead_24 : decode cX3_isAhead 24 = .ok (.iaload, 1) := by decide +kernel
theorem dX3_isAhead_25 : decode cX3_isAhead 25 = .ok (.iconst 2, 1) := by decide +kernel
theorem dX3_isAhead_26 : decode cX3_isAhead 26 = .ok (.if_icmp .ne 7, 3) := by decide +kernel
theorem dX3_isAhead_29 : decode cX3_isAhead 29 = .ok (.iconst 1, 1) := by decide +kernel
theorem dX3_isAhead_30 : decode cX3_isAhead 30 = .ok (.goto 4, 3) := by decide +kernel
theorem dX3_isAhead_33 : decode cX3_isAhead 33 = .ok (.iconst 0, 1) := by decide +kernel
theorem dX3_isAhead_34 : decode cX3_isAhead 34 = .ok (.if_icmp .eq 15, 3) := by decide +kernel
theorem dX3_isAhead_37 : decode cX3_isAhead 37 = .ok (.iload 4, 2) := by decide +kernel
theorem dX3_isAhead_39 : decode cX3_isAhead 39 = .ok (.iload_n 3, 1) := by decide +kernel
theorem dX3_isAhead_40 : decode cX3_isAhead 40 = .ok (.if_icmp .ne 7, 3) := by decide +kernel
theorem dX3_isAhead_43 : decode cX3_isAhead 43 = .ok (.iconst 1, 1) := by decide +kernel
theorem dX3_isAhead_44 : decode cX3_isAhead 44 = .ok (.goto 4, 3) := by decide +kernel
theorem dX3_isAhead_47 : decode cX3_isAhead 47 = .ok (.iconst 0, 1) := by decide +kernel
theorem dX3_isAhead_48 : decode cX3_isAhead 48 = .ok (.ireturn, 1) := by decide +kernel
theorem dX3_isAhead_49 : decode cX3_isAhead 49 = .ok (.aload_n 0, 1) := by decide +kernel
theorem dX3_isAhead_50 : decode cX3_isAhead 50 = .ok (.getfield 28, 3) := by decide +kernel
theorem dX3_isAhead_53 : decode cX3_isAhead 53 = .ok (.iload_n 1, 1) := by decide +kernel
theorem dX3_isAhead_54 : decode cX3_isAhead 54 = .ok (.iaload, 1) := by decide +kernel
theorem dX3_isAhead_55 : decode cX3_isAhead 55 = .ok (.aload_n 0, 1) := by decide +kernel
theorem dX3_isAhead_56 : decode cX3_isAhead 56 = .ok (.getfield 28, 3) := by decide +kernel
theorem dX3_isAhead_59 : decode cX3_isAhead 59 = .ok (.iload_n 2, 1) := by decide +kernel
theorem dX3_isAhead_60 : decode cX3_isAhead 60 = .ok (.iaload, 1) := by decide +kernel
theorem dX3_isAhead_61 : decode cX3_isAhead 61 = .ok (.if_icmp .eq 24, 3) := by decide +kernel
theorem dX3_isAhead_64 : decode cX3_isAhead 64 = .ok (.aload_n 0, 1) := by decide +kernel
theorem dX3_isAhead_65 : decode cX3_isAhead 65 = .ok (.getfield 28, 3) := by decide +kernel
theorem dX3_isAhead_68 : decode cX3_isAhead 68 = .ok (.iload_n 1, 1) := by decide +kernel
theorem dX3_isAhead_69 : decode cX3_isAhead 69 = .ok (.iaload, 1) := by decide +kernel
theorem dX3_isAhead_70 : decode cX3_isAhead 70 = .ok (.aload_n 0, 1) := by decide +kernel
theorem dX3_isAhead_71 : decode cX3_isAhead 71 = .ok (.getfield 28, 3) := by decide +kernel
theorem dX3_isAhead_74 : decode cX3_isAhead 74 = .ok (.iload_n 2, 1) := by decide +kernel
theorem dX3_isAhead_75 : decode cX3_isAhead 75 = .ok (.iaload, 1) := by decide +kernel
theorem dX3_isAhead_76 : decode cX3_isAhead 76 = .ok (.if_icmp .ge 7, 3) := by decide +kernel
theorem dX3_isAhead_79 : decode cX3_isAhead 79 = .ok (.iconst 1, 1) := by decide +kernel
theorem dX3_isAhead_80 : decode cX3_isAhead 80 = .ok (.goto 4, 3) := by decide +kernel
theorem dX3_isAhead_83 : decode cX3_isAhead 83 = .ok (.iconst 0, 1) := by decide +kernel
theorem dX3_isAhead_84 : decode cX3_isAhead 84 = .ok (.ireturn, 1) := by decide +kernel
theorem dX3_isAhead_85 : decode cX3_isAhead 85 = .ok (.iload_n 1, 1) := by decide +kernel
theorem dX3_isAhead_86 : decode cX3_isAhead 86 = .ok (.iload_n 2, 1) := by decide +kernel
theorem dX3_isAhead_87 : decode cX3_isAhead 87 = .ok (.if_icmp .ge 7, 3) := by decide +kernel
theorem dX3_isAhead_90 : decode cX3_isAhead 90 = .ok (.iconst 1, 1) := by decide +kernel
theorem dX3_isAhead_91 : decode cX3_isAhead 91 = .ok (.goto 4, 3) := by decide +kernel
theorem dX3_isAhead_94 : decode cX3_isAhead 94 = .ok (.iconst 0, 1) := by decide +kernel
theorem dX3_isAhead_95 : decode cX3_isAhead 95 = .ok (.ireturn, 1) := by decide +kernel
theorem dX3_start_0 : decode cX3_start 0 = .ok (.aload_n 0, 1) := by decide +kernel
theorem dX3_start_1 : decode cX3_start 1 = .ok (.iload_n 1, 1) := by decide +kernel
theorem dX3_start_2 : decode cX3_start 2 = .ok (.invokevirtual 50, 3) := by decide +kernel
theorem dX3_start_5 : decode cX3_start 5 = .ok (.ifCond .ne 4, 3) := by decide +kernel
theorem dX3_start_8 : decode cX3_start 8 = .ok (.return_, 1) := by decide +kernel
theorem dX3_start_9 : decode cX3_start 9 = .ok (.aload_n 0, 1) := by decide +kernel
theorem dX3_start_10 : decode cX3_start 10 = .ok (.getfield 34, 3) := by decide +kernel
theorem dX3_start_13 : decode cX3_start 13 = .ok (.iload_n 1, 1) := by decide +kernel
theorem dX3_start_14 : decode cX3_start 14 = .ok (.dup2, 1) := by decide +kernel
theorem dX3_start_15 : decode cX3_start 15 = .ok (.iaload, 1) := by decide +kernel
theorem dX3_start_16 : decode cX3_start 16 = .ok (.iconst 1, 1) := by decide +kernel
theorem dX3_start_17 : decode cX3_start 17 = .ok (.iadd, 1) := by decide +kernel
theorem dX3_start_18 : decode cX3_start 18 = .ok (.iastore, 1) := by decide +kernel
theorem dX3_start_19 : decode cX3_start 19 = .ok (.aload_n 0, 1) := by decide +kernel
theorem dX3_start_20 : decode cX3_start 20 = .ok (.getfield 25, 3) := by decide +kernel
theorem dX3_start_23 : decode cX3_start 23 = .ok (.iload_n 1, 1) := by decide +kernel
theorem dX3_start_24 : decode cX3_start 24 = .ok (.sipush 1000, 3) := by decide +kernel
theorem dX3_start_27 : decode cX3_start 27 = .ok (.iastore, 1) := by decide +kernel
theorem dX3_start_28 : decode cX3_start 28 = .ok (.aload_n 0, 1) := by decide +kernel
theorem dX3_start_29 : decode cX3_start 29 = .ok (.getfield 11, 3) := by decide +kernel
theorem dX3_start_32 : decode cX3_start 32 = .ok (.iload_n 1, 1) := by decide +kernel
theorem dX3_start_33 : decode cX3_start 33 = .ok (.iaload, 1) := by decide +kernel
theorem dX3_start_34 : decode cX3_start 34 = .ok (.ifCond .ne 4, 3) := by decide +kernel
theorem dX3_start_37 : decode cX3_start 37 = .ok (.return_, 1) := by decide +kernel
theorem dX3_start_38 : decode cX3_start 38 = .ok (.aload_n 0, 1) := by decide +kernel
theorem dX3_start_39 : decode cX3_start 39 = .ok (.aload_n 0, 1) := by decide +kernel
theorem dX3_start_40 : decode cX3_start 40 = .ok (.getfield 37, 3) := by decide +kernel
theorem dX3_start_43 : decode cX3_start 43 = .ok (.invokevirtual 50, 3) := by decide +kernel
theorem dX3_start_46 : decode cX3_start 46 = .ok (.ifCond .eq 15, 3) := by decide +kernel
theorem dX3_start_49 : decode cX3_start 49 = .ok (.aload_n 0, 1) := by decide +kernel
theorem dX3_start_50 : decode cX3_start 50 = .ok (.getfield 25, 3) := by decide +kernel
theorem dX3_start_53 : decode cX3_start 53 = .ok (.aload_n 0, 1) := by decide +kernel
theorem dX3_start_54 : decode cX3_start 54 = .ok (.getfield 37, 3) := by decide +kernel
theorem dX3_start_57 : decode cX3_start 57 = .ok (.sipush 1000, 3) := by decide +kernel
theorem dX3_start_60 : decode cX3_start 60 = .ok (.iastore, 1) := by decide +kernel
theorem dX3_start_61 : decode cX3_start 61 = .ok (.aload_n 0, 1) := by decide +kernel
theorem dX3_start_62 : decode cX3_start 62 = .ok (.iload_n 1, 1) := by decide +kernel
theorem dX3_start_63 : decode cX3_start 63 = .ok (.putfield 37, 3) := by decide +kernel
theorem dX3_start_66 : decode cX3_start 66 = .ok (.aload_n 0, 1) := by decide +kernel
theorem dX3_start_67 : decode cX3_start 67 = .ok (.getfield 25, 3) := by decide +kernel
theorem dX3_start_70 : decode cX3_start 70 = .ok (.iload_n 1, 1) := by decide +kernel
theorem dX3_start_71 : decode cX3_start 71 = .ok (.iload_n 2, 1) := by decide +kernel
theorem dX3_start_72 : decode cX3_start 72 = .ok (.iastore, 1) := by decide +kernel
theorem dX3_start_73 : decode cX3_start 73 = .ok (.return_, 1) := by decide +kernel
theorem dX3_stop_0 : decode cX3_stop 0 = .ok (.aload_n 0, 1) := by decide +kernel
theorem dX3_stop_1 : decode cX3_stop 1 = .ok (.iload_n 1, 1) := by decide +kernel
theorem dX3_stop_2 : decode cX3_stop 2 = .ok (.invokevirtual 50, 3) := by decide +kernel
theorem dX3_stop_5 : decode cX3_stop 5 = .ok (.ifCond .ne 4, 3) := by decide +kernel
theorem dX3_stop_8 : decode cX3_stop 8 = .ok (.return_, 1) := by decide +kernel
theorem dX3_stop_9 : decode cX3_stop 9 = .ok (.aload_n 0, 1) := by decide +kernel
theorem dX3_stop_10 : decode cX3_stop 10 = .ok (.getfield 25, 3) := by decide +kernel
theorem dX3_stop_13 : decode cX3_stop 13 = .ok (.iload_n 1, 1) := by decide +kernel
theorem dX3_stop_14 : decode cX3_stop 14 = .ok (.iconst 0, 1) := by decide +kernel
theorem dX3_stop_15 : decode cX3_stop 15 = .ok (.iastore, 1) := by decide +kernel
theorem dX3_stop_16 : decode cX3_stop 16 = .ok (.aload_n 0, 1) := by decide +kernel
theorem dX3_stop_17 : decode cX3_stop 17 = .ok (.getfield 31, 3) := by decide +kernel
theorem dX3_stop_20 : decode cX3_stop 20 = .ok (.iload_n 1, 1) := by decide +kernel
theorem dX3_stop_21 : decode cX3_stop 21 = .ok (.iconst 0, 1) := by decide +kernel
theorem dX3_stop_22 : decode cX3_stop 22 = .ok (.iastore, 1) := by decide +kernel
theorem dX3_stop_23 : decode cX3_stop 23 = .ok (.iload_n 1, 1) := by decide +kernel
theorem dX3_stop_24 : decode cX3_stop 24 = .ok (.aload_n 0, 1) := by decide +kernel
theorem dX3_stop_25 : decode cX3_stop 25 = .ok (.getfield 37, 3) := by decide +kernel
theorem dX3_stop_28 : decode cX3_stop 28 = .ok (.if_icmp .ne 11, 3) := by decide +kernel
theorem dX3_stop_31 : decode cX3_stop 31 = .ok (.aload_n 0, 1) := by decide +kernel
theorem dX3_stop_32 : decode cX3_stop 32 = .ok (.aload_n 0, 1) := by decide +kernel
theorem dX3_stop_33 : decode cX3_stop 33 = .ok (.invokevirtual 87, 3) := by decide +kernel
theorem dX3_stop_36 : decode cX3_stop 36 = .ok (.putfield 37, 3) := by decide +kernel
theorem dX3_stop_39 : decode cX3_stop 39 = .ok (.return_, 1) := by decide +kernel
theorem dX3_nextVariable_0 : decode cX3_nextVariable 0 = .ok (.iconst (-1), 1) := by decide +kernel
theorem dX3_nextVariable_1 : decode cX3_nextVariable 1 = .ok (.istore_n 1, 1) := by decide +kernel
theorem dX3_nextVariable_2 : decode cX3_nextVariable 2 = .ok (.iconst 0, 1) := by decide +kernel
theorem dX3_nextVariable_3 : decode cX3_nextVariable 3 = .ok (.istore_n 2, 1) := by decide +kernel
theorem dX3_nextVariable_4 : decode cX3_nextVariable 4 = .ok (.iload_n 2, 1) := by decide +kernel
theorem dX3_nextVariable_5 : decode cX3_nextVariable 5 = .ok (.aload_n 0, 1) := by decide +kernel
theorem dX3_nextVariable_6 : decode cX3_nextVariable 6 = .ok (.getfield 47, 3) := by decide +kernel
theorem dX3_nextVariable_9 : decode cX3_nextVariable 9 = .ok (.if_icmp .ge 49, 3) := by decide +kernel
theorem dX3_nextVariable_12 : decode cX3_nextVariable 12 = .ok (.aload_n 0, 1) := by decide +kernel
theorem dX3_nextVariable_13 : decode cX3_nextVariable 13 = .ok (.getfield 25, 3) := by decide +kernel
theorem dX3_nextVariable_16 : decode cX3_nextVariable 16 = .ok (.iload_n 2, 1) := by decide +kernel
theorem dX3_nextVariable_17 : decode cX3_nextVariable 17 = .ok (.iaload, 1) := by decide +kernel
theorem dX3_nextVariable_18 : decode cX3_nextVariable 18 = .ok (.ifCond .le 34, 3) := by decide +kernel
theorem dX3_nextVariable_21 : decode cX3_nextVariable 21 = .ok (.aload_n 0, 1) := by decide +kernel
theorem dX3_nextVariable_22 : decode cX3_nextVariable 22 = .ok (.getfield 11, 3) := by decide +kernel
theorem dX3_nextVariable_25 : decode cX3_nextVariable 25 = .ok (.iload_n 2, 1) := by decide +kernel
theorem dX3_nextVariable_26 : decode cX3_nextVariable 26 = .ok (.iaload, 1) := by decide +kernel
theorem dX3_nextVariable_27 : decode cX3_nextVariable 27 = .ok (.ifCond .eq 25, 3) := by decide +kernel
theorem dX3_nextVariable_30 : decode cX3_nextVariable 30 = .ok (.iload_n 1, 1) := by decide +kernel
theorem dX3_nextVariable_31 : decode cX3_nextVariable 31 = .ok (.iconst (-1), 1) := by decide +kernel
theorem dX3_nextVariable_32 : decode cX3_nextVariable 32 = .ok (.if_icmp .eq 18, 3) := by decide +kernel
theorem dX3_nextVariable_35 : decode cX3_nextVariable 35 = .ok (.aload_n 0, 1) := by decide +kernel
theorem dX3_nextVariable_36 : decode cX3_nextVariable 36 = .ok (.getfield 28, 3) := by decide +kernel
theorem dX3_nextVariable_39 : decode cX3_nextVariable 39 = .ok (.iload_n 2, 1) := by decide +kernel
theorem dX3_nextVariable_40 : decode cX3_nextVariable 40 = .ok (.iaload, 1) := by decide +kernel
theorem dX3_nextVariable_41 : decode cX3_nextVariable 41 = .ok (.aload_n 0, 1) := by decide +kernel
theorem dX3_nextVariable_42 : decode cX3_nextVariable 42 = .ok (.getfield 28, 3) := by decide +kernel
theorem dX3_nextVariable_45 : decode cX3_nextVariable 45 = .ok (.iload_n 1, 1) := by decide +kernel
theorem dX3_nextVariable_46 : decode cX3_nextVariable 46 = .ok (.iaload, 1) := by decide +kernel
theorem dX3_nextVariable_47 : decode cX3_nextVariable 47 = .ok (.if_icmp .ge 5, 3) := by decide +kernel
theorem dX3_nextVariable_50 : decode cX3_nextVariable 50 = .ok (.iload_n 2, 1) := by decide +kernel
theorem dX3_nextVariable_51 : decode cX3_nextVariable 51 = .ok (.istore_n 1, 1) := by decide +kernel
theorem dX3_nextVariable_52 : decode cX3_nextVariable 52 = .ok (.iinc 2 1, 3) := by decide +kernel
theorem dX3_nextVariable_55 : decode cX3_nextVariable 55 = .ok (.goto (-51), 3) := by decide +kernel
theorem dX3_nextVariable_58 : decode cX3_nextVariable 58 = .ok (.iload_n 1, 1) := by decide +kernel
theorem dX3_nextVariable_59 : decode cX3_nextVariable 59 = .ok (.ireturn, 1) := by decide +kernel
theorem dX3_nextToStop_0 : decode cX3_nextToStop 0 = .ok (.iconst (-1), 1) := by decide +kernel
theorem dX3_nextToStop_1 : decode cX3_nextToStop 1 = .ok (.istore_n 1, 1) := by decide +kernel
theorem dX3_nextToStop_2 : decode cX3_nextToStop 2 = .ok (.iconst 0, 1) := by decide +kernel
theorem dX3_nextToStop_3 : decode cX3_nextToStop 3 = .ok (.istore_n 2, 1) := by decide +kernel
theorem dX3_nextToStop_4 : decode cX3_nextToStop 4 = .ok (.iload_n 2, 1) := by decide +kernel
theorem dX3_nextToStop_5 : decode cX3_nextToStop 5 = .ok (.aload_n 0, 1) := by decide +kernel
theorem dX3_nextToStop_6 : decode cX3_nextToStop 6 = .ok (.getfield 47, 3) := by decide +kernel
theorem dX3_nextToStop_9 : decode cX3_nextToStop 9 = .ok (.if_icmp .ge 48, 3) := by decide +kernel
theorem dX3_nextToStop_12 : decode cX3_nextToStop 12 = .ok (.aload_n 0, 1) := by decide +kernel
theorem dX3_nextToStop_13 : decode cX3_nextToStop 13 = .ok (.getfield 25, 3) := by decide +kernel
theorem dX3_nextToStop_16 : decode cX3_nextToStop 16 = .ok (.iload_n 2, 1) := by decide +kernel
theorem dX3_nextToStop_17 : decode cX3_nextToStop 17 = .ok (.iaload, 1) := by decide +kernel
theorem dX3_nextToStop_18 : decode cX3_nextToStop 18 = .ok (.ifCond .le 33, 3) := by decide +kernel
theorem dX3_nextToStop_21 : decode cX3_nextToStop 21 = .ok (.iload_n 2, 1) := by decide +kernel
theorem dX3_nextToStop_22 : decode cX3_nextToStop 22 = .ok (.aload_n 0, 1) := by decide +kernel
theorem dX3_nextToStop_23 : decode cX3_nextToStop 23 = .ok (.getfield 37, 3) := by decide +kernel
theorem dX3_nextToStop_26 : decode cX3_nextToStop 26 = .ok (.if_icmp .eq 25, 3) := by decide +kernel
theorem dX3_nextToStop_29 : decode cX3_nextToStop 29 = .ok (.iload_n 1, 1) := by decide +kernel
theorem dX3_nextToStop_30 : decode cX3_nextToStop 30 = .ok (.iconst (-1), 1) := by decide +kernel
theorem dX3_nextToStop_31 : decode cX3_nextToStop 31 = .ok (.if_icmp .eq 18, 3) := by decide +kernel
theorem dX3_nextToStop_34 : decode cX3_nextToStop 34 = .ok (.aload_n 0, 1) := by decide +kernel
theorem dX3_nextToStop_35 : decode cX3_nextToStop 35 = .ok (.getfield 28, 3) := by decide +kernel
theorem dX3_nextToStop_38 : decode cX3_nextToStop 38 = .ok (.iload_n 2, 1) := by decide +kernel
theorem dX3_nextToStop_39 : decode cX3_nextToStop 39 = .ok (.iaload, 1) := by decide +kernel
theorem dX3_nextToStop_40 : decode cX3_nextToStop 40 = .ok (.aload_n 0, 1) := by decide +kernel
theorem dX3_nextToStop_41 : decode cX3_nextToStop 41 = .ok (.getfield 28, 3) := by decide +kernel
theorem dX3_nextToStop_44 : decode cX3_nextToStop 44 = .ok (.iload_n 1, 1) := by decide +kernel
theorem dX3_nextToStop_45 : decode cX3_nextToStop 45 = .ok (.iaload, 1) := by decide +kernel
theorem dX3_nextToStop_46 : decode cX3_nextToStop 46 = .ok (.if_icmp .le 5, 3) := by decide +kernel
theorem dX3_nextToStop_49 : decode cX3_nextToStop 49 = .ok (.iload_n 2, 1) := by decide +kernel
theorem dX3_nextToStop_50 : decode cX3_nextToStop 50 = .ok (.istore_n 1, 1) := by decide +kernel
theorem dX3_nextToStop_51 : decode cX3_nextToStop 51 = .ok (.iinc 2 1, 3) := by decide +kernel
theorem dX3_nextToStop_54 : decode cX3_nextToStop 54 = .ok (.goto (-50), 3) := by decide +kernel
theorem dX3_nextToStop_57 : decode cX3_nextToStop 57 = .ok (.iload_n 1, 1) := by decide +kernel
theorem dX3_nextToStop_58 : decode cX3_nextToStop 58 = .ok (.ireturn, 1) := by decide +kernel
theorem dX3_nextInRotation_0 : decode cX3_nextInRotation 0 = .ok (.aload_n 0, 1) := by decide +kernel
theorem dX3_nextInRotation_1 : decode cX3_nextInRotation 1 = .ok (.aload_n 0, 1) := by decide +kernel
theorem dX3_nextInRotation_2 : decode cX3_nextInRotation 2 = .ok (.getfield 37, 3) := by decide +kernel
theorem dX3_nextInRotation_5 : decode cX3_nextInRotation 5 = .ok (.invokevirtual 50, 3) := by decide +kernel
theorem dX3_nextInRotation_8 : decode cX3_nextInRotation 8 = .ok (.ifCond .ne 5, 3) := by decide +kernel
theorem dX3_nextInRotation_11 : decode cX3_nextInRotation 11 = .ok (.iconst (-1), 1) := by decide +kernel
theorem dX3_nextInRotation_12 : decode cX3_nextInRotation 12 = .ok (.ireturn, 1) := by decide +kernel
theorem dX3_nextInRotation_13 : decode cX3_nextInRotation 13 = .ok (.iconst (-1), 1) := by decide +kernel
theorem dX3_nextInRotation_14 : decode cX3_nextInRotation 14 = .ok (.istore_n 1, 1) := by decide +kernel
theorem dX3_nextInRotation_15 : decode cX3_nextInRotation 15 = .ok (.aload_n 0, 1) := by decide +kernel
theorem dX3_nextInRotation_16 : decode cX3_nextInRotation 16 = .ok (.getfield 28, 3) := by decide +kernel
theorem dX3_nextInRotation_19 : decode cX3_nextInRotation 19 = .ok (.aload_n 0, 1) := by decide +kernel
theorem dX3_nextInRotation_20 : decode cX3_nextInRotation 20 = .ok (.getfield 37, 3) := by decide +kernel
theorem dX3_nextInRotation_23 : decode cX3_nextInRotation 23 = .ok (.iaload, 1) := by decide +kernel
theorem dX3_nextInRotation_24 : decode cX3_nextInRotation 24 = .ok (.istore_n 2, 1) := by decide +kernel
theorem dX3_nextInRotation_25 : decode cX3_nextInRotation 25 = .ok (.iconst 0, 1) := by decide +kernel
theorem dX3_nextInRotation_26 : decode cX3_nextInRotation 26 = .ok (.istore_n 3, 1) := by decide +kernel
theorem dX3_nextInRotation_27 : decode cX3_nextInRotation 27 = .ok (.iload_n 3, 1) := by decide +kernel
theorem dX3_nextInRotation_28 : decode cX3_nextInRotation 28 = .ok (.aload_n 0, 1) := by decide +kernel
theorem dX3_nextInRotation_29 : decode cX3_nextInRotation 29 = .ok (.getfield 47, 3) := by decide +kernel
theorem dX3_nextInRotation_32 : decode cX3_nextInRotation 32 = .ok (.if_icmp .ge 45, 3) := by decide +kernel
theorem dX3_nextInRotation_35 : decode cX3_nextInRotation 35 = .ok (.aload_n 0, 1) := by decide +kernel
theorem dX3_nextInRotation_36 : decode cX3_nextInRotation 36 = .ok (.iload_n 3, 1) := by decide +kernel
theorem dX3_nextInRotation_37 : decode cX3_nextInRotation 37 = .ok (.invokevirtual 54, 3) := by decide +kernel
theorem dX3_nextInRotation_40 : decode cX3_nextInRotation 40 = .ok (.ifCond .eq 31, 3) := by decide +kernel
theorem dX3_nextInRotation_43 : decode cX3_nextInRotation 43 = .ok (.aload_n 0, 1) := by decide +kernel
theorem dX3_nextInRotation_44 : decode cX3_nextInRotation 44 = .ok (.getfield 11, 3) := by decide +kernel
theorem dX3_nextInRotation_47 : decode cX3_nextInRotation 47 = .ok (.iload_n 3, 1) := by decide +kernel
theorem dX3_nextInRotation_48 : decode cX3_nextInRotation 48 = .ok (.iaload, 1) := by decide +kernel
theorem dX3_nextInRotation_49 : decode cX3_nextInRotation 49 = .ok (.ifCond .eq 22, 3) := by decide +kernel
theorem dX3_nextInRotation_52 : decode cX3_nextInRotation 52 = .ok (.aload_n 0, 1) := by decide +kernel
theorem dX3_nextInRotation_53 : decode cX3_nextInRotation 53 = .ok (.getfield 28, 3) := by decide +kernel
theorem dX3_nextInRotation_56 : decode cX3_nextInRotation 56 = .ok (.iload_n 3, 1) := by decide +kernel
theorem dX3_nextInRotation_57 : decode cX3_nextInRotation 57 = .ok (.iaload, 1) := by decide +kernel
theorem dX3_nextInRotation_58 : decode cX3_nextInRotation 58 = .ok (.iload_n 2, 1) := by decide +kernel
theorem dX3_nextInRotation_59 : decode cX3_nextInRotation 59 = .ok (.if_icmp .ge 12, 3) := by decide +kernel
theorem dX3_nextInRotation_62 : decode cX3_nextInRotation 62 = .ok (.iload_n 3, 1) := by decide +kernel
theorem dX3_nextInRotation_63 : decode cX3_nextInRotation 63 = .ok (.istore_n 1, 1) := by decide +kernel
theorem dX3_nextInRotation_64 : decode cX3_nextInRotation 64 = .ok (.aload_n 0, 1) := by decide +kernel
theorem dX3_nextInRotation_65 : decode cX3_nextInRotation 65 = .ok (.getfield 28, 3) := by decide +kernel
theorem dX3_nextInRotation_68 : decode cX3_nextInRotation 68 = .ok (.iload_n 3, 1) := by decide +kernel
theorem dX3_nextInRotation_69 : decode cX3_nextInRotation 69 = .ok (.iaload, 1) := by decide +kernel
theorem dX3_nextInRotation_70 : decode cX3_nextInRotation 70 = .ok (.istore_n 2, 1) := by decide +kernel
theorem dX3_nextInRotation_71 : decode cX3_nextInRotation 71 = .ok (.iinc 3 1, 3) := by decide +kernel
theorem dX3_nextInRotation_74 : decode cX3_nextInRotation 74 = .ok (.goto (-47), 3) := by decide +kernel
theorem dX3_nextInRotation_77 : decode cX3_nextInRotation 77 = .ok (.iload_n 1, 1) := by decide +kernel
theorem dX3_nextInRotation_78 : decode cX3_nextInRotation 78 = .ok (.ireturn, 1) := by decide +kernel
end
section
/-! decode rows -/
theorem dX4_init_0 : decode cX4_init 0 = .ok (.aload_n 0, 1) := by decide +kernel
theorem dX4_init_1 : decode cX4_init 1 = .ok (.invokespecial 3, 3) := by decide +kernel
theorem dX4_init_4 : decode cX4_init 4 = .ok (.aload_n 0, 1) := by decide +kernel
theorem dX4_init_5 : decode cX4_init 5 = .ok (.getstatic 9, 3) := by decide +kernel
theorem dX4_init_8 : decode cX4_init 8 = .ok (.invokevirtual 13, 3) := by decide +kernel
theorem dX4_init_11 : decode cX4_init 11 = .ok (.checkcast 14, 3) := by decide +kernel
theorem dX4_init_14 : decode cX4_init 14 = .ok (.putfield 18, 3) := by decide +kernel
theorem dX4_init_17 : decode cX4_init 17 = .ok (.aload_n 0, 1) := by decide +kernel
theorem dX4_init_18 : decode cX4_init 18 = .ok (.new 23, 3) := by decide +kernel
theorem dX4_init_21 : decode cX4_init 21 = .ok (.dup, 1) := by decide +kernel
theorem dX4_init_22 : decode cX4_init 22 = .ok (.invokespecial 25, 3) := by decide +kernel
theorem dX4_init_25 : decode cX4_init 25 = .ok (.putfield 26, 3) := by decide +kernel
theorem dX4_init_28 : decode cX4_init 28 = .ok (.aload_n 0, 1) := by decide +kernel
theorem dX4_init_29 : decode cX4_init 29 = .ok (.new 30, 3) := by decide +kernel
theorem dX4_init_32 : decode cX4_init 32 = .ok (.dup, 1) := by decide +kernel
theorem dX4_init_33 : decode cX4_init 33 = .ok (.invokespecial 32, 3) := by decide +kernel
theorem dX4_init_36 : decode cX4_init 36 = .ok (.putfield 33, 3) := by decide +kernel
theorem dX4_init_39 : decode cX4_init 39 = .ok (.aload_n 0, 1) := by decide +kernel
theorem dX4_init_40 : decode cX4_init 40 = .ok (.new 37, 3) := by decide +kernel
theorem dX4_init_43 : decode cX4_init 43 = .ok (.dup, 1) := by decide +kernel
theorem dX4_init_44 : decode cX4_init 44 = .ok (.invokespecial 39, 3) := by decide +kernel
theorem dX4_init_47 : decode cX4_init 47 = .ok (.putfield 40, 3) := by decide +kernel
theorem dX4_init_50 : decode cX4_init 50 = .ok (.aload_n 0, 1) := by decide +kernel
theorem dX4_init_51 : decode cX4_init 51 = .ok (.new 44, 3) := by decide +kernel
theorem dX4_init_54 : decode cX4_init 54 = .ok (.dup, 1) := by decide +kernel
theorem dX4_init_55 : decode cX4_init 55 = .ok (.invokespecial 46, 3) := by decide +kernel
theorem dX4_init_58 : decode cX4_init 58 = .ok (.putfield 47, 3) := by decide +kernel
theorem dX4_init_61 : decode cX4_init 61 = .ok (.aload_n 0, 1) := by decide +kernel
theorem dX4_init_62 : decode cX4_init 62 = .ok (.sipush 10000, 3) := by decide +kernel
theorem dX4_init_65 : decode cX4_init 65 = .ok (.putfield 51, 3) := by decide +kernel
theorem dX4_init_68 : decode cX4_init 68 = .ok (.return_, 1) := by decide +kernel
theorem dX4_copyFrom_0 : decode cX4_copyFrom 0 = .ok (.aload_n 1, 1) := by decide +kernel
theorem dX4_copyFrom_1 : decode cX4_copyFrom 1 = .ok (.ifnonnull 4, 3) := by decide +kernel
theorem dX4_copyFrom_4 : decode cX4_copyFrom 4 = .ok (.return_, 1) := by decide +kernel
theorem dX4_copyFrom_5 : decode cX4_copyFrom 5 = .ok (.aload_n 1, 1) := by decide +kernel
theorem dX4_copyFrom_6 : decode cX4_copyFrom 6 = .ok (.getfield 18, 3) := by decide +kernel
theorem dX4_copyFrom_9 : decode cX4_copyFrom 9 = .ok (.iconst 0, 1) := by decide +kernel
theorem dX4_copyFrom_10 : decode cX4_copyFrom 10 = .ok (.aload_n 0, 1) := by decide +kernel
theorem dX4_copyFrom_11 : decode cX4_copyFrom 11 = .ok (.getfield 18, 3) := by decide +kernel
theorem dX4_copyFrom_14 : decode cX4_copyFrom 14 = .ok (.iconst 0, 1) := by decide +kernel
theorem dX4_copyFrom_15 : decode cX4_copyFrom 15 = .ok (.bipush 19, 2) := by decide +kernel
theorem dX4_copyFrom_17 : decode cX4_copyFrom 17 = .ok (.invokestatic 55, 3) := by decide +kernel
theorem dX4_copyFrom_20 : decode cX4_copyFrom 20 = .ok (.aload_n 0, 1) := by decide +kernel
theorem dX4_copyFrom_21 : decode cX4_copyFrom 21 = .ok (.getfield 26, 3) := by decide +kernel
theorem dX4_copyFrom_24 : decode cX4_copyFrom 24 = .ok (.aload_n 1, 1) := by decide +kernel
theorem dX4_copyFrom_25 : decode cX4_copyFrom 25 = .ok (.getfield 26, 3) := by decide +kernel
theorem dX4_copyFrom_28 : decode cX4_copyFrom 28 = .ok (.invokevirtual 61, 3) := by decide +kernel
theorem dX4_copyFrom_31 : decode cX4_copyFrom 31 = .ok (.aload_n 0, 1) := by decide +kernel
theorem dX4_copyFrom_32 : decode cX4_copyFrom 32 = .ok (.getfield 33, 3) := by decide +kernel
theorem dX4_copyFrom_35 : decode cX4_copyFrom 35 = .ok (.aload_n 1, 1) := by decide +kernel
theorem dX4_copyFrom_36 : decode cX4_copyFrom 36 = .ok (.getfield 33, 3) := by decide +kernel
theorem dX4_copyFrom_39 : decode cX4_copyFrom 39 = .ok (.invokevirtual 65, 3) := by decide +kernel
theorem dX4_copyFrom_42 : decode cX4_copyFrom 42 = .ok (.aload_n 0, 1) := by decide +kernel
theorem dX4_copyFrom_43 : decode cX4_copyFrom 43 = .ok (.getfield 40, 3) := by decide +kernel
theorem dX4_copyFrom_46 : decode cX4_copyFrom 46 = .ok (.aload_n 1, 1) := by decide +kernel
theorem dX4_copyFrom_47 : decode cX4_copyFrom 47 = .ok (.getfield 40, 3) := by decide +kernel
theorem dX4_copyFrom_50 : decode cX4_copyFrom 50 = .ok (.invokevirtual 68, 3) := by decide +kernel
theorem dX4_copyFrom_53 : decode cX4_copyFrom 53 = .ok (.aload_n 0, 1) := by decide +kernel
theorem dX4_copyFrom_54 : decode cX4_copyFrom 54 = .ok (.getfield 47, 3) := by decide +kernel
theorem dX4_copyFrom_57 : decode cX4_copyFrom 57 = .ok (.aload_n 1, 1) := by decide +kernel
theorem dX4_copyFrom_58 : decode cX4_copyFrom 58 = .ok (.getfield 47, 3) := by decide +kernel
theorem dX4_copyFrom_61 : decode cX4_copyFrom 61 = .ok (.invokevirtual 71, 3) := by decide +kernel
theorem dX4_copyFrom_64 : decode cX4_copyFrom 64 = .ok (.aload_n 0, 1) := by decide +kernel
theorem dX4_copyFrom_65 : decode cX4_copyFrom 65 = .ok (.aload_n 1, 1) := by decide +kernel
theorem dX4_copyFrom_66 : decode cX4_copyFrom 66 = .ok (.getfield 74, 3) := by decide +kernel
theorem dX4_copyFrom_69 : decode cX4_copyFrom 69 = .ok (.putfield 74, 3) := by decide +kernel
theorem dX4_copyFrom_72 : decode cX4_copyFrom 72 = .ok (.aload_n 0, 1) := by decide +kernel
theorem dX4_copyFrom_73 : decode cX4_copyFrom 73 = .ok (.aload_n 1, 1) := by decide +kernel
theorem dX4_copyFrom_74 : decode cX4_copyFrom 74 = .ok (.getfield 77, 3) := by decide +kernel
theorem dX4_copyFrom_77 : decode cX4_copyFrom 77 = .ok (.putfield 77, 3) := by decide +kernel
theorem dX4_copyFrom_80 : decode cX4_copyFrom 80 = .ok (.aload_n 0, 1) := by decide +kernel
theorem dX4_copyFrom_81 : decode cX4_copyFrom 81 = .ok (.aload_n 1, 1) := by decide +kernel
theorem dX4_copyFrom_82 : decode cX4_copyFrom 82 = .ok (.getfield 51, 3) := by decide +kernel
theorem dX4_copyFrom_85 : decode cX4_copyFrom 85 = .ok (.putfield 51, 3) := by decide +kernel
theorem dX4_copyFrom_88 : decode cX4_copyFrom 88 = .ok (.aload_n 0, 1) := by decide +kernel
theorem dX4_copyFrom_89 : decode cX4_copyFrom 89 = .ok (.aload_n 1, 1) := by decide +kernel
theorem dX4_copyFrom_90 : decode cX4_copyFrom 90 = .ok (.getfield 80, 3) := by decide +kernel
theorem dX4_copyFrom_93 : decode cX4_copyFrom 93 = .ok (.putfield 80, 3) := by decide +kernel
theorem dX4_copyFrom_96 : decode cX4_copyFrom 96 = .ok (.aload_n 0, 1) := by decide +kernel
theorem dX4_copyFrom_97 : decode cX4_copyFrom 97 = .ok (.aload_n 1, 1) := by decide +kernel
theorem dX4_copyFrom_98 : decode cX4_copyFrom 98 = .ok (.getfield 83, 3) := by decide +kernel
theorem dX4_copyFrom_101 : decode cX4_copyFrom 101 = .ok (.putfield 83, 3) := by decide +kernel
theorem dX4_copyFrom_104 : decode cX4_copyFrom 104 = .ok (.aload_n 0, 1) := by decide +kernel
theorem dX4_copyFrom_105 : decode cX4_copyFrom 105 = .ok (.aload_n 1, 1) := by decide +kernel
theorem dX4_copyFrom_106 : decode cX4_copyFrom 106 = .ok (.getfield 86, 3) := by decide +kernel
theorem dX4_copyFrom_109 : decode cX4_copyFrom 109 = .ok (.putfield 86, 3) := by decide +kernel
theorem dX4_copyFrom_112 : decode cX4_copyFrom 112 = .ok (.aload_n 0, 1) := by decide +kernel
theorem dX4_copyFrom_113 : decode cX4_copyFrom 113 = .ok (.aload_n 1, 1) := by decide +kernel
theorem dX4_copyFrom_114 : decode cX4_copyFrom 114 = .ok (.getfield 89, 3) := by decide +kernel
theorem dX4_copyFrom_117 : decode cX4_copyFrom 117 = .ok (.putfield 89, 3) := by decide +kernel
theorem dX4_copyFrom_120 : decode cX4_copyFrom 120 = .ok (.aload_n 0, 1) := by decide +kernel
theorem dX4_copyFrom_121 : decode cX4_copyFrom 121 = .ok (.aload_n 1, 1) := by decide +kernel
theorem dX4_copyFrom_122 : decode cX4_copyFrom 122 = .ok (.getfield 93, 3) := by decide +kernel
theorem dX4_copyFrom_125 : decode cX4_copyFrom 125 = .ok (.putfield 93, 3) := by decide +kernel
theorem dX4_copyFrom_128 : decode cX4_copyFrom 128 = .ok (.aload_n 0, 1) := by decide +kernel
theorem dX4_copyFrom_129 : decode cX4_copyFrom 129 = .ok (.aload_n 1, 1) := by decide +kernel
theorem dX4_copyFrom_130 : decode cX4_copyFrom 130 = .ok (.getfield 96, 3) := by decide +kernel
theorem dX4_copyFrom_133 : decode cX4_copyFrom 133 = .ok (.putfield 96, 3) := by decide +kernel
theorem dX4_copyFrom_136 : decode cX4_copyFrom 136 = .ok (.aload_n 0, 1) := by decide +kernel
theorem dX4_copyFrom_137 : decode cX4_copyFrom 137 = .ok (.aload_n 1, 1) := by decide +kernel
theorem dX4_copyFrom_138 : decode cX4_copyFrom 138 = .ok (.getfield 99, 3) := by decide +kernel
theorem dX4_copyFrom_141 : decode cX4_copyFrom 141 = .ok (.putfield 99, 3) := by decide +kernel
theorem dX4_copyFrom_144 : decode cX4_copyFrom 144 = .ok (.aload_n 0, 1) := by decide +kernel
theorem dX4_copyFrom_145 : decode cX4_copyFrom 145 = .ok (.aload_n 1, 1) := by decide +kernel
theorem dX4_copyFrom_146 : decode cX4_copyFrom 146 = .ok (.getfield 102, 3) := by decide +kernel
theorem dX4_copyFrom_149 : decode cX4_copyFrom 149 = .ok (.putfield 102, 3) := by decide +kernel
theorem dX4_copyFrom_152 : decode cX4_copyFrom 152 = .ok (.aload_n 0, 1) := by decide +kernel
theorem dX4_copyFrom_153 : decode cX4_copyFrom 153 = .ok (.aload_n 1, 1) := by decide +kernel
theorem dX4_copyFrom_154 : decode cX4_copyFrom 154 = .ok (.getfield 105, 3) := by decide +kernel
theorem dX4_copyFrom_157 : decode cX4_copyFrom 157 = .ok (.putfield 105, 3) := by decide +kernel
theorem dX4_copyFrom_160 : decode cX4_copyFrom 160 = .ok (.return_, 1) := by decide +kernel
theorem dX4_demand_0 : decode cX4_demand 0 = .ok (.aload_n 0, 1) := by decide +kernel
theorem dX4_demand_1 : decode cX4_demand 1 = .ok (.getfield 33, 3) := by decide +kernel
theorem dX4_demand_4 : decode cX4_demand 4 = .ok (.aload_n 0, 1) := by decide +kernel
theorem dX4_demand_5 : decode cX4_demand 5 = .ok (.getfield 77, 3) := by decide +kernel
theorem dX4_demand_8 : decode cX4_demand 8 = .ok (.invokevirtual 108, 3) := by decide +kernel
theorem dX4_demand_11 : decode cX4_demand 11 = .ok (.aload_n 0, 1) := by decide +kernel
theorem dX4_demand_12 : decode cX4_demand 12 = .ok (.getfield 80, 3) := by decide +kernel
theorem dX4_demand_15 : decode cX4_demand 15 = .ok (.aload_n 0, 1) := by decide +kernel
theorem dX4_demand_16 : decode cX4_demand 16 = .ok (.getfield 77, 3) := by decide +kernel
theorem dX4_demand_19 : decode cX4_demand 19 = .ok (.imul, 1) := by decide +kernel
theorem dX4_demand_20 : decode cX4_demand 20 = .ok (.sipush 1000, 3) := by decide +kernel
theorem dX4_demand_23 : decode cX4_demand 23 = .ok (.idiv, 1) := by decide +kernel
theorem dX4_demand_24 : decode cX4_demand 24 = .ok (.iadd, 1) := by decide +kernel
theorem dX4_demand_25 : decode cX4_demand 25 = .ok (.ireturn, 1) := by decide +kernel
theorem dX4_runMinute_0 : decode cX4_runMinute 0 = .ok (.aload_n 0, 1) := by decide +kernel
theorem dX4_runMinute_1 : decode cX4_runMinute 1 = .ok (.dup, 1) := by decide +kernel
theorem dX4_runMinute_2 : decode cX4_runMinute 2 = .ok (.getfield 74, 3) := by decide +kernel
theorem dX4_runMinute_5 : decode cX4_runMinute 5 = .ok (.iconst 1, 1) := by decide +kernel
theorem dX4_runMinute_6 : decode cX4_runMinute 6 = .ok (.iadd, 1) := by decide +kernel
theorem dX4_runMinute_7 : decode cX4_runMinute 7 = .ok (.putfield 74, 3) := by decide +kernel
theorem dX4_runMinute_10 : decode cX4_runMinute 10 = .ok (.aload_n 0, 1) := by decide +kernel
theorem dX4_runMinute_11 : decode cX4_runMinute 11 = .ok (.getfield 33, 3) := by decide +kernel
theorem dX4_runMinute_14 : decode cX4_runMinute 14 = .ok (.aload_n 0, 1) := by decide +kernel
theorem dX4_runMinute_15 : decode cX4_runMinute 15 = .ok (.getfield 74, 3) := by decide +kernel
theorem dX4_runMinute_18 : decode cX4_runMinute 18 = .ok (.sipush 1440, 3) := by decide +kernel
theorem dX4_runMinute_21 : decode cX4_runMinute 21 = .ok (.irem, 1) := by decide +kernel
theorem dX4_runMinute_22 : decode cX4_runMinute 22 = .ok (.invokevirtual 112, 3) := by decide +kernel
theorem dX4_runMinute_25 : decode cX4_runMinute 25 = .ok (.aload_n 0, 1) := by decide +kernel
theorem dX4_runMinute_26 : decode cX4_runMinute 26 = .ok (.invokevirtual 116, 3) := by decide +kernel
theorem dX4_runMinute_29 : decode cX4_runMinute 29 = .ok (.aload_n 0, 1) := by decide +kernel
theorem dX4_runMinute_30 : decode cX4_runMinute 30 = .ok (.invokevirtual 119, 3) := by decide +kernel
theorem dX4_runMinute_33 : decode cX4_runMinute 33 = .ok (.aload_n 0, 1) := by decide +kernel
theorem dX4_runMinute_34 : decode cX4_runMinute 34 = .ok (.invokevirtual 122, 3) := by decide +kernel
theorem dX4_runMinute_37 : decode cX4_runMinute 37 = .ok (.aload_n 0, 1) := by decide +kernel
theorem dX4_runMinute_38 : decode cX4_runMinute 38 = .ok (.getfield 89, 3) := by decide +kernel
theorem dX4_runMinute_41 : decode cX4_runMinute 41 = .ok (.ifCond .eq 8, 3) := by decide +kernel
theorem dX4_runMinute_44 : decode cX4_runMinute 44 = .ok (.aload_n 0, 1) := by decide +kernel
theorem dX4_runMinute_45 : decode cX4_runMinute 45 = .ok (.invokevirtual 125, 3) := by decide +kernel
theorem dX4_runMinute_48 : decode cX4_runMinute 48 = .ok (.return_, 1) := by decide +kernel
theorem dX4_runMinute_49 : decode cX4_runMinute 49 = .ok (.aload_n 0, 1) := by decide +kernel
theorem dX4_runMinute_50 : decode cX4_runMinute 50 = .ok (.invokevirtual 128, 3) := by decide +kernel
theorem dX4_runMinute_53 : decode cX4_runMinute 53 = .ok (.aload_n 0, 1) := by decide +kernel
theorem dX4_runMinute_54 : decode cX4_runMinute 54 = .ok (.invokevirtual 131, 3) := by decide +kernel
theorem dX4_runMinute_57 : decode cX4_runMinute 57 = .ok (.aload_n 0, 1) := by decide +kernel
theorem dX4_runMinute_58 : decode cX4_runMinute 58 = .ok (.invokevirtual 134, 3) := by decide +kernel
theorem dX4_runMinute_61 : decode cX4_runMinute 61 = .ok (.aload_n 0, 1) := by decide +kernel
theorem dX4_runMinute_62 : decode cX4_runMinute 62 = .ok (.invokevirtual 137, 3) := by decide +kernel
theorem dX4_runMinute_65 : decode cX4_runMinute 65 = .ok (.aload_n 0, 1) := by decide +kernel
theorem dX4_runMinute_66 : decode cX4_runMinute 66 = .ok (.invokevirtual 140, 3) := by decide +kernel
theorem dX4_runMinute_69 : decode cX4_runMinute 69 = .ok (.return_, 1) := by decide +kernel
theorem dX4_moveWater_0 : decode cX4_moveWater 0 = .ok (.aload_n 0, 1) := by decide +kernel
theorem dX4_moveWater_1 : decode cX4_moveWater 1 = .ok (.invokevirtual 143, 3) := by decide +kernel
theorem dX4_moveWater_4 : decode cX4_moveWater 4 = .ok (.istore_n 1, 1) := by decide +kernel
theorem dX4_moveWater_5 : decode cX4_moveWater 5 = .ok (.aload_n 0, 1) := by decide +kernel
theorem dX4_moveWater_6 : decode cX4_moveWater 6 = .ok (.aload_n 0, 1) := by decide +kernel
theorem dX4_moveWater_7 : decode cX4_moveWater 7 = .ok (.getfield 51, 3) := by decide +kernel
theorem dX4_moveWater_10 : decode cX4_moveWater 10 = .ok (.aload_n 0, 1) := by decide +kernel
theorem dX4_moveWater_11 : decode cX4_moveWater 11 = .ok (.getfield 26, 3) := by decide +kernel
theorem dX4_moveWater_14 : decode cX4_moveWater 14 = .ok (.aload_n 0, 1) := by decide +kernel
theorem dX4_moveWater_15 : decode cX4_moveWater 15 = .ok (.getfield 77, 3) := by decide +kernel
theorem dX4_moveWater_18 : decode cX4_moveWater 18 = .ok (.invokevirtual 147, 3) := by decide +kernel
theorem dX4_moveWater_21 : decode cX4_moveWater 21 = .ok (.invokestatic 150, 3) := by decide +kernel
theorem dX4_moveWater_24 : decode cX4_moveWater 24 = .ok (.putfield 83, 3) := by decide +kernel
theorem dX4_moveWater_27 : decode cX4_moveWater 27 = .ok (.aload_n 0, 1) := by decide +kernel
theorem dX4_moveWater_28 : decode cX4_moveWater 28 = .ok (.dup, 1) := by decide +kernel
theorem dX4_moveWater_29 : decode cX4_moveWater 29 = .ok (.getfield 86, 3) := by decide +kernel
theorem dX4_moveWater_32 : decode cX4_moveWater 32 = .ok (.aload_n 0, 1) := by decide +kernel
theorem dX4_moveWater_33 : decode cX4_moveWater 33 = .ok (.getfield 83, 3) := by decide +kernel
theorem dX4_moveWater_36 : decode cX4_moveWater 36 = .ok (.iadd, 1) := by decide +kernel
theorem dX4_moveWater_37 : decode cX4_moveWater 37 = .ok (.putfield 86, 3) := by decide +kernel
theorem dX4_moveWater_40 : decode cX4_moveWater 40 = .ok (.aload_n 0, 1) := by decide +kernel
theorem dX4_moveWater_41 : decode cX4_moveWater 41 = .ok (.sipush 20000, 3) := by decide +kernel
theorem dX4_moveWater_44 : decode cX4_moveWater 44 = .ok (.aload_n 0, 1) := by decide +kernel
theorem dX4_moveWater_45 : decode cX4_moveWater 45 = .ok (.getfield 51, 3) := by decide +kernel
theorem dX4_moveWater_48 : decode cX4_moveWater 48 = .ok (.aload_n 0, 1) := by decide +kernel
theorem dX4_moveWater_49 : decode cX4_moveWater 49 = .ok (.getfield 83, 3) := by decide +kernel
theorem dX4_moveWater_52 : decode cX4_moveWater 52 = .ok (.isub, 1) := by decide +kernel
theorem dX4_moveWater_53 : decode cX4_moveWater 53 = .ok (.aload_n 0, 1) := by decide +kernel
theorem dX4_moveWater_54 : decode cX4_moveWater 54 = .ok (.getfield 18, 3) := by decide +kernel
theorem dX4_moveWater_57 : decode cX4_moveWater 57 = .ok (.bipush 14, 2) := by decide +kernel
theorem dX4_moveWater_59 : decode cX4_moveWater 59 = .ok (.iaload, 1) := by decide +kernel
theorem dX4_moveWater_60 : decode cX4_moveWater 60 = .ok (.iadd, 1) := by decide +kernel
theorem dX4_moveWater_61 : decode cX4_moveWater 61 = .ok (.invokestatic 150, 3) := by decide +kernel
theorem dX4_moveWater_64 : decode cX4_moveWater 64 = .ok (.putfield 51, 3) := by decide +kernel
theorem dX4_moveWater_67 : decode cX4_moveWater 67 = .ok (.aload_n 0, 1) := by decide +kernel
theorem dX4_moveWater_68 : decode cX4_moveWater 68 = .ok (.getfield 26, 3) := by decide +kernel
theorem dX4_moveWater_71 : decode cX4_moveWater 71 = .ok (.invokevirtual 156, 3) := by decide +kernel
theorem dX4_moveWater_74 : decode cX4_moveWater 74 = .ok (.aload_n 0, 1) := by decide +kernel
theorem dX4_moveWater_75 : decode cX4_moveWater 75 = .ok (.getfield 18, 3) := by decide +kernel
theorem dX4_moveWater_78 : decode cX4_moveWater 78 = .ok (.bipush 10, 2) := by decide +kernel
theorem dX4_moveWater_80 : decode cX4_moveWater 80 = .ok (.iaload, 1) := by decide +kernel
theorem dX4_moveWater_81 : decode cX4_moveWater 81 = .ok (.istore_n 2, 1) := by decide +kernel
theorem dX4_moveWater_82 : decode cX4_moveWater 82 = .ok (.iload_n 2, 1) := by decide +kernel
theorem dX4_moveWater_83 : decode cX4_moveWater 83 = .ok (.ifCond .le 27, 3) := by decide +kernel
theorem dX4_moveWater_86 : decode cX4_moveWater 86 = .ok (.aload_n 0, 1) := by decide +kernel
theorem dX4_moveWater_87 : decode cX4_moveWater 87 = .ok (.aload_n 0, 1) := by decide +kernel
theorem dX4_moveWater_88 : decode cX4_moveWater 88 = .ok (.getfield 77, 3) := by decide +kernel
theorem dX4_moveWater_91 : decode cX4_moveWater 91 = .ok (.aload_n 0, 1) := by decide +kernel
theorem dX4_moveWater_92 : decode cX4_moveWater 92 = .ok (.getfield 83, 3) := by decide +kernel
theorem dX4_moveWater_95 : decode cX4_moveWater 95 = .ok (.iload_n 1, 1) := by decide +kernel
theorem dX4_moveWater_96 : decode cX4_moveWater 96 = .ok (.isub, 1) := by decide +kernel
theorem dX4_moveWater_97 : decode cX4_moveWater 97 = .ok (.iload_n 2, 1) := by decide +kernel
theorem dX4_moveWater_98 : decode cX4_moveWater 98 = .ok (.idiv, 1) := by decide +kernel
theorem dX4_moveWater_99 : decode cX4_moveWater 99 = .ok (.iadd, 1) := by decide +kernel
theorem dX4_moveWater_100 : decode cX4_moveWater 100 = .ok (.iconst 0, 1) := by decide +kernel
theorem dX4_moveWater_101 : decode cX4_moveWater 101 = .ok (.sipush 2000, 3) := by decide +kernel
theorem dX4_moveWater_104 : decode cX4_moveWater 104 = .ok (.invokestatic 159, 3) := by decide +kernel
theorem dX4_moveWater_107 : decode cX4_moveWater 107 = .ok (.putfield 77, 3) := by decide +kernel
theorem dX4_moveWater_110 : decode cX4_moveWater 110 = .ok (.return_, 1) := by decide +kernel
theorem dX4_watchNight_0 : decode cX4_watchNight 0 = .ok (.aload_n 0, 1) := by decide +kernel
theorem dX4_watchNight_1 : decode cX4_watchNight 1 = .ok (.getfield 74, 3) := by decide +kernel
theorem dX4_watchNight_4 : decode cX4_watchNight 4 = .ok (.sipush 1440, 3) := by decide +kernel
theorem dX4_watchNight_7 : decode cX4_watchNight 7 = .ok (.irem, 1) := by decide +kernel
theorem dX4_watchNight_8 : decode cX4_watchNight 8 = .ok (.aload_n 0, 1) := by decide +kernel
theorem dX4_watchNight_9 : decode cX4_watchNight 9 = .ok (.getfield 18, 3) := by decide +kernel
theorem dX4_watchNight_12 : decode cX4_watchNight 12 = .ok (.bipush 15, 2) := by decide +kernel
theorem dX4_watchNight_14 : decode cX4_watchNight 14 = .ok (.iaload, 1) := by decide +kernel
theorem dX4_watchNight_15 : decode cX4_watchNight 15 = .ok (.isub, 1) := by decide +kernel
theorem dX4_watchNight_16 : decode cX4_watchNight 16 = .ok (.sipush 1440, 3) := by decide +kernel
theorem dX4_watchNight_19 : decode cX4_watchNight 19 = .ok (.iadd, 1) := by decide +kernel
theorem dX4_watchNight_20 : decode cX4_watchNight 20 = .ok (.sipush 1440, 3) := by decide +kernel
theorem dX4_watchNight_23 : decode cX4_watchNight 23 = .ok (.irem, 1) := by decide +kernel
theorem dX4_watchNight_24 : decode cX4_watchNight 24 = .ok (.istore_n 1, 1) := by decide +kernel
theorem dX4_watchNight_25 : decode cX4_watchNight 25 = .ok (.iload_n 1, 1) := by decide +kernel
theorem dX4_watchNight_26 : decode cX4_watchNight 26 = .ok (.aload_n 0, 1) := by decide +kernel
theorem dX4_watchNight_27 : decode cX4_watchNight 27 = .ok (.getfield 18, 3) := by decide +kernel
theorem dX4_watchNight_30 : decode cX4_watchNight 30 = .ok (.bipush 16, 2) := by decide +kernel
theorem dX4_watchNight_32 : decode cX4_watchNight 32 = .ok (.iaload, 1) := by decide +kernel
theorem dX4_watchNight_33 : decode cX4_watchNight 33 = .ok (.if_icmp .lt 4, 3) := by decide +kernel
theorem dX4_watchNight_36 : decode cX4_watchNight 36 = .ok (.return_, 1) := by decide +kernel
theorem dX4_watchNight_37 : decode cX4_watchNight 37 = .ok (.aload_n 0, 1) := by decide +kernel
theorem dX4_watchNight_38 : decode cX4_watchNight 38 = .ok (.getfield 40, 3) := by decide +kernel
theorem dX4_watchNight_41 : decode cX4_watchNight 41 = .ok (.dup, 1) := by decide +kernel
theorem dX4_watchNight_42 : decode cX4_watchNight 42 = .ok (.getfield 163, 3) := by decide +kernel
theorem dX4_watchNight_45 : decode cX4_watchNight 45 = .ok (.aload_n 0, 1) := by decide +kernel
theorem dX4_watchNight_46 : decode cX4_watchNight 46 = .ok (.getfield 83, 3) := by decide +kernel
theorem dX4_watchNight_49 : decode cX4_watchNight 49 = .ok (.iadd, 1) := by decide +kernel
theorem dX4_watchNight_50 : decode cX4_watchNight 50 = .ok (.putfield 163, 3) := by decide +kernel
theorem dX4_watchNight_53 : decode cX4_watchNight 53 = .ok (.iload_n 1, 1) := by decide +kernel
theorem dX4_watchNight_54 : decode cX4_watchNight 54 = .ok (.aload_n 0, 1) := by decide +kernel
theorem dX4_watchNight_55 : decode cX4_watchNight 55 = .ok (.getfield 18, 3) := by decide +kernel
theorem dX4_watchNight_58 : decode cX4_watchNight 58 = .ok (.bipush 16, 2) := by decide +kernel
theorem dX4_watchNight_60 : decode cX4_watchNight 60 = .ok (.iaload, 1) := by decide +kernel
theorem dX4_watchNight_61 : decode cX4_watchNight 61 = .ok (.iconst 1, 1) := by decide +kernel
theorem dX4_watchNight_62 : decode cX4_watchNight 62 = .ok (.isub, 1) := by decide +kernel
theorem dX4_watchNight_63 : decode cX4_watchNight 63 = .ok (.if_icmp .ge 4, 3) := by decide +kernel
theorem dX4_watchNight_66 : decode cX4_watchNight 66 = .ok (.return_, 1) := by decide +kernel
theorem dX4_watchNight_67 : decode cX4_watchNight 67 = .ok (.aload_n 0, 1) := by decide +kernel
theorem dX4_watchNight_68 : decode cX4_watchNight 68 = .ok (.getfield 40, 3) := by decide +kernel
theorem dX4_watchNight_71 : decode cX4_watchNight 71 = .ok (.aload_n 0, 1) := by decide +kernel
theorem dX4_watchNight_72 : decode cX4_watchNight 72 = .ok (.getfield 18, 3) := by decide +kernel
theorem dX4_watchNight_75 : decode cX4_watchNight 75 = .ok (.bipush 17, 2) := by decide +kernel
theorem dX4_watchNight_77 : decode cX4_watchNight 77 = .ok (.iaload, 1) := by decide +kernel
theorem dX4_watchNight_78 : decode cX4_watchNight 78 = .ok (.invokevirtual 165, 3) := by decide +kernel
theorem dX4_watchNight_81 : decode cX4_watchNight 81 = .ok (.ifCond .eq 30, 3) := by decide +kernel
theorem dX4_watchNight_84 : decode cX4_watchNight 84 = .ok (.aload_n 0, 1) := by decide +kernel
theorem dX4_watchNight_85 : decode cX4_watchNight 85 = .ok (.getfield 40, 3) := by decide +kernel
theorem dX4_watchNight_88 : decode cX4_watchNight 88 = .ok (.dup, 1) := by decide +kernel
theorem dX4_watchNight_89 : decode cX4_watchNight 89 = .ok (.getfield 169, 3) := by decide +kernel
theorem dX4_watchNight_92 : decode cX4_watchNight 92 = .ok (.iconst 1, 1) := by decide +kernel
theorem dX4_watchNight_93 : decode cX4_watchNight 93 = .ok (.iadd, 1) := by decide +kernel
theorem dX4_watchNight_94 : decode cX4_watchNight 94 = .ok (.putfield 169, 3) := by decide +kernel
theorem dX4_watchNight_97 : decode cX4_watchNight 97 = .ok (.aload_n 0, 1) := by decide +kernel
theorem dX4_watchNight_98 : decode cX4_watchNight 98 = .ok (.getfield 47, 3) := by decide +kernel
theorem dX4_watchNight_101 : decode cX4_watchNight 101 = .ok (.bipush 6, 2) := by decide +kernel
theorem dX4_watchNight_103 : decode cX4_watchNight 103 = .ok (.aload_n 0, 1) := by decide +kernel
theorem dX4_watchNight_104 : decode cX4_watchNight 104 = .ok (.getfield 74, 3) := by decide +kernel
theorem dX4_watchNight_107 : decode cX4_watchNight 107 = .ok (.iconst (-1), 1) := by decide +kernel
theorem dX4_watchNight_108 : decode cX4_watchNight 108 = .ok (.invokevirtual 172, 3) := by decide +kernel
theorem dX4_watchNight_111 : decode cX4_watchNight 111 = .ok (.aload_n 0, 1) := by decide +kernel
theorem dX4_watchNight_112 : decode cX4_watchNight 112 = .ok (.getfield 40, 3) := by decide +kernel
theorem dX4_watchNight_115 : decode cX4_watchNight 115 = .ok (.invokevirtual 176, 3) := by decide +kernel
theorem dX4_watchNight_118 : decode cX4_watchNight 118 = .ok (.return_, 1) := by decide +kernel
theorem dX4_watchLevel_0 : decode cX4_watchLevel 0 = .ok (.aload_n 0, 1) := by decide +kernel
theorem dX4_watchLevel_1 : decode cX4_watchLevel 1 = .ok (.aload_n 0, 1) := by decide +kernel
theorem dX4_watchLevel_2 : decode cX4_watchLevel 2 = .ok (.getfield 51, 3) := by decide +kernel
theorem dX4_watchLevel_5 : decode cX4_watchLevel 5 = .ok (.aload_n 0, 1) := by decide +kernel
theorem dX4_watchLevel_6 : decode cX4_watchLevel 6 = .ok (.getfield 18, 3) := by decide +kernel
theorem dX4_watchLevel_9 : decode cX4_watchLevel 9 = .ok (.bipush 11, 2) := by decide +kernel
theorem dX4_watchLevel_11 : decode cX4_watchLevel 11 = .ok (.iaload, 1) := by decide +kernel
theorem dX4_watchLevel_12 : decode cX4_watchLevel 12 = .ok (.if_icmp .ge 12, 3) := by decide +kernel
theorem dX4_watchLevel_15 : decode cX4_watchLevel 15 = .ok (.aload_n 0, 1) := by decide +kernel
theorem dX4_watchLevel_16 : decode cX4_watchLevel 16 = .ok (.getfield 93, 3) := by decide +kernel
theorem dX4_watchLevel_19 : decode cX4_watchLevel 19 = .ok (.iconst 1, 1) := by decide +kernel
theorem dX4_watchLevel_20 : decode cX4_watchLevel 20 = .ok (.iadd, 1) := by decide +kernel
theorem dX4_watchLevel_21 : decode cX4_watchLevel 21 = .ok (.goto 4, 3) := by decide +kernel
theorem dX4_watchLevel_24 : decode cX4_watchLevel 24 = .ok (.iconst 0, 1) := by decide +kernel
theorem dX4_watchLevel_25 : decode cX4_watchLevel 25 = .ok (.putfield 93, 3) := by decide +kernel
theorem dX4_watchLevel_28 : decode cX4_watchLevel 28 = .ok (.aload_n 0, 1) := by decide +kernel
theorem dX4_watchLevel_29 : decode cX4_watchLevel 29 = .ok (.getfield 89, 3) := by decide +kernel
theorem dX4_watchLevel_32 : decode cX4_watchLevel 32 = .ok (.ifCond .ne 70, 3) := by decide +kernel
theorem dX4_watchLevel_35 : decode cX4_watchLevel 35 = .ok (.aload_n 0, 1) := by decide +kernel
theorem dX4_watchLevel_36 : decode cX4_watchLevel 36 = .ok (.getfield 93, 3) := by decide +kernel
theorem dX4_watchLevel_39 : decode cX4_watchLevel 39 = .ok (.aload_n 0, 1) := by decide +kernel
theorem dX4_watchLevel_40 : decode cX4_watchLevel 40 = .ok (.getfield 18, 3) := by decide +kernel
theorem dX4_watchLevel_43 : decode cX4_watchLevel 43 = .ok (.bipush 13, 2) := by decide +kernel
theorem dX4_watchLevel_45 : decode cX4_watchLevel 45 = .ok (.iaload, 1) := by decide +kernel
theorem dX4_watchLevel_46 : decode cX4_watchLevel 46 = .ok (.if_icmp .lt 56, 3) := by decide +kernel
theorem dX4_watchLevel_49 : decode cX4_watchLevel 49 = .ok (.iconst 0, 1) := by decide +kernel
theorem dX4_watchLevel_50 : decode cX4_watchLevel 50 = .ok (.istore_n 1, 1) := by decide +kernel
theorem dX4_watchLevel_51 : decode cX4_watchLevel 51 = .ok (.iload_n 1, 1) := by decide +kernel
theorem dX4_watchLevel_52 : decode cX4_watchLevel 52 = .ok (.aload_n 0, 1) := by decide +kernel
theorem dX4_watchLevel_53 : decode cX4_watchLevel 53 = .ok (.getfield 26, 3) := by decide +kernel
theorem dX4_watchLevel_56 : decode cX4_watchLevel 56 = .ok (.getfield 179, 3) := by decide +kernel
theorem dX4_watchLevel_59 : decode cX4_watchLevel 59 = .ok (.if_icmp .ge 15, 3) := by decide +kernel
theorem dX4_watchLevel_62 : decode cX4_watchLevel 62 = .ok (.aload_n 0, 1) := by decide +kernel
theorem dX4_watchLevel_63 : decode cX4_watchLevel 63 = .ok (.iload_n 1, 1) := by decide +kernel
theorem dX4_watchLevel_64 : decode cX4_watchLevel 64 = .ok (.invokevirtual 182, 3) := by decide +kernel
theorem dX4_watchLevel_67 : decode cX4_watchLevel 67 = .ok (.pop, 1) := by decide +kernel
theorem dX4_watchLevel_68 : decode cX4_watchLevel 68 = .ok (.iinc 1 1, 3) := by decide +kernel
theorem dX4_watchLevel_71 : decode cX4_watchLevel 71 = .ok (.goto (-20), 3) := by decide +kernel
theorem dX4_watchLevel_74 : decode cX4_watchLevel 74 = .ok (.aload_n 0, 1) := by decide +kernel
theorem dX4_watchLevel_75 : decode cX4_watchLevel 75 = .ok (.iconst 1, 1) := by decide +kernel
theorem dX4_watchLevel_76 : decode cX4_watchLevel 76 = .ok (.putfield 89, 3) := by decide +kernel
theorem dX4_watchLevel_79 : decode cX4_watchLevel 79 = .ok (.aload_n 0, 1) := by decide +kernel
theorem dX4_watchLevel_80 : decode cX4_watchLevel 80 = .ok (.dup, 1) := by decide +kernel
theorem dX4_watchLevel_81 : decode cX4_watchLevel 81 = .ok (.getfield 96, 3) := by decide +kernel
theorem dX4_watchLevel_84 : decode cX4_watchLevel 84 = .ok (.iconst 1, 1) := by decide +kernel
theorem dX4_watchLevel_85 : decode cX4_watchLevel 85 = .ok (.iadd, 1) := by decide +kernel
theorem dX4_watchLevel_86 : decode cX4_watchLevel 86 = .ok (.putfield 96, 3) := by decide +kernel
theorem dX4_watchLevel_89 : decode cX4_watchLevel 89 = .ok (.aload_n 0, 1) := by decide +kernel
theorem dX4_watchLevel_90 : decode cX4_watchLevel 90 = .ok (.getfield 47, 3) := by decide +kernel
theorem dX4_watchLevel_93 : decode cX4_watchLevel 93 = .ok (.iconst 4, 1) := by decide +kernel
theorem dX4_watchLevel_94 : decode cX4_watchLevel 94 = .ok (.aload_n 0, 1) := by decide +kernel
theorem dX4_watchLevel_95 : decode cX4_watchLevel 95 = .ok (.getfield 74, 3) := by decide +kernel
theorem dX4_watchLevel_98 : decode cX4_watchLevel 98 = .ok (.iconst (-1), 1) := by decide +kernel
theorem dX4_watchLevel_99 : decode cX4_watchLevel 99 = .ok (.invokevirtual 172, 3) := by decide +kernel
theorem dX4_watchLevel_102 : decode cX4_watchLevel 102 = .ok (.aload_n 0, 1) := by decide +kernel
theorem dX4_watchLevel_103 : decode cX4_watchLevel 103 = .ok (.getfield 96, 3) := by decide +kernel
theorem dX4_watchLevel_106 : decode cX4_watchLevel 106 = .ok (.iconst 3, 1) := by decide +kernel
theorem dX4_watchLevel_107 : decode cX4_watchLevel 107 = .ok (.if_icmp .ge 7, 3) := by decide +kernel
theorem dX4_watchLevel_110 : decode cX4_watchLevel 110 = .ok (.aload_n 0, 1) := by decide +kernel
theorem dX4_watchLevel_111 : decode cX4_watchLevel 111 = .ok (.invokevirtual 185, 3) := by decide +kernel
theorem dX4_watchLevel_114 : decode cX4_watchLevel 114 = .ok (.return_, 1) := by decide +kernel
theorem dX4_goOnIfFilled_0 : decode cX4_goOnIfFilled 0 = .ok (.aload_n 0, 1) := by decide +kernel
theorem dX4_goOnIfFilled_1 : decode cX4_goOnIfFilled 1 = .ok (.getfield 89, 3) := by decide +kernel
theorem dX4_goOnIfFilled_4 : decode cX4_goOnIfFilled 4 = .ok (.ifCond .eq 35, 3) := by decide +kernel
theorem dX4_goOnIfFilled_7 : decode cX4_goOnIfFilled 7 = .ok (.aload_n 0, 1) := by decide +kernel
theorem dX4_goOnIfFilled_8 : decode cX4_goOnIfFilled 8 = .ok (.getfield 51, 3) := by decide +kernel
theorem dX4_goOnIfFilled_11 : decode cX4_goOnIfFilled 11 = .ok (.aload_n 0, 1) := by decide +kernel
theorem dX4_goOnIfFilled_12 : decode cX4_goOnIfFilled 12 = .ok (.getfield 18, 3) := by decide +kernel
theorem dX4_goOnIfFilled_15 : decode cX4_goOnIfFilled 15 = .ok (.bipush 12, 2) := by decide +kernel
theorem dX4_goOnIfFilled_17 : decode cX4_goOnIfFilled 17 = .ok (.iaload, 1) := by decide +kernel
theorem dX4_goOnIfFilled_18 : decode cX4_goOnIfFilled 18 = .ok (.if_icmp .lt 21, 3) := by decide +kernel
theorem dX4_goOnIfFilled_21 : decode cX4_goOnIfFilled 21 = .ok (.aload_n 0, 1) := by decide +kernel
theorem dX4_goOnIfFilled_22 : decode cX4_goOnIfFilled 22 = .ok (.iconst 0, 1) := by decide +kernel
theorem dX4_goOnIfFilled_23 : decode cX4_goOnIfFilled 23 = .ok (.putfield 89, 3) := by decide +kernel
theorem dX4_goOnIfFilled_26 : decode cX4_goOnIfFilled 26 = .ok (.aload_n 0, 1) := by decide +kernel
theorem dX4_goOnIfFilled_27 : decode cX4_goOnIfFilled 27 = .ok (.getfield 47, 3) := by decide +kernel
theorem dX4_goOnIfFilled_30 : decode cX4_goOnIfFilled 30 = .ok (.iconst 5, 1) := by decide +kernel
theorem dX4_goOnIfFilled_31 : decode cX4_goOnIfFilled 31 = .ok (.aload_n 0, 1) := by decide +kernel
theorem dX4_goOnIfFilled_32 : decode cX4_goOnIfFilled 32 = .ok (.getfield 74, 3) := by decide +kernel
theorem dX4_goOnIfFilled_35 : decode cX4_goOnIfFilled 35 = .ok (.iconst (-1), 1) := by decide +kernel
theorem dX4_goOnIfFilled_36 : decode cX4_goOnIfFilled 36 = .ok (.invokevirtual 172, 3) := by decide +kernel
theorem dX4_goOnIfFilled_39 : decode cX4_goOnIfFilled 39 = .ok (.return_, 1) := by decide +kernel
theorem dX4_forgetTrips_0 : decode cX4_forgetTrips 0 = .ok (.aload_n 0, 1) := by decide +kernel
theorem dX4_forgetTrips_1 : decode cX4_forgetTrips 1 = .ok (.iconst 0, 1) := by decide +kernel
theorem dX4_forgetTrips_2 : decode cX4_forgetTrips 2 = .ok (.putfield 96, 3) := by decide +kernel
theorem dX4_forgetTrips_5 : decode cX4_forgetTrips 5 = .ok (.aload_n 0, 1) := by decide +kernel
theorem dX4_forgetTrips_6 : decode cX4_forgetTrips 6 = .ok (.invokevirtual 185, 3) := by decide +kernel
theorem dX4_forgetTrips_9 : decode cX4_forgetTrips 9 = .ok (.return_, 1) := by decide +kernel
theorem dX4_changeService_0 : decode cX4_changeService 0 = .ok (.aload_n 0, 1) := by decide +kernel
theorem dX4_changeService_1 : decode cX4_changeService 1 = .ok (.getfield 26, 3) := by decide +kernel
theorem dX4_changeService_4 : decode cX4_changeService 4 = .ok (.getfield 188, 3) := by decide +kernel
theorem dX4_changeService_7 : decode cX4_changeService 7 = .ok (.iload_n 1, 1) := by decide +kernel
theorem dX4_changeService_8 : decode cX4_changeService 8 = .ok (.iload_n 2, 1) := by decide +kernel
theorem dX4_changeService_9 : decode cX4_changeService 9 = .ok (.bastore, 1) := by decide +kernel
theorem dX4_changeService_10 : decode cX4_changeService 10 = .ok (.iload_n 2, 1) := by decide +kernel
theorem dX4_changeService_11 : decode cX4_changeService 11 = .ok (.ifCond .ne 15, 3) := by decide +kernel
theorem dX4_changeService_14 : decode cX4_changeService 14 = .ok (.aload_n 0, 1) := by decide +kernel
theorem dX4_changeService_15 : decode cX4_changeService 15 = .ok (.iload_n 1, 1) := by decide +kernel
theorem dX4_changeService_16 : decode cX4_changeService 16 = .ok (.invokevirtual 182, 3) := by decide +kernel
theorem dX4_changeService_19 : decode cX4_changeService 19 = .ok (.ifCond .eq 7, 3) := by decide +kernel
theorem dX4_changeService_22 : decode cX4_changeService 22 = .ok (.iconst 1, 1) := by decide +kernel
theorem dX4_changeService_23 : decode cX4_changeService 23 = .ok (.goto 4, 3) := by decide +kernel
theorem dX4_changeService_26 : decode cX4_changeService 26 = .ok (.iconst 0, 1) := by decide +kernel
theorem dX4_changeService_27 : decode cX4_changeService 27 = .ok (.ireturn, 1) := by decide +kernel
theorem dX4_start_0 : decode cX4_start 0 = .ok (.aload_n 0, 1) := by decide +kernel
theorem dX4_start_1 : decode cX4_start 1 = .ok (.getfield 26, 3) := by decide +kernel
theorem dX4_start_4 : decode cX4_start 4 = .ok (.iload_n 1, 1) := by decide +kernel
theorem dX4_start_5 : decode cX4_start 5 = .ok (.iload_n 2, 1) := by decide +kernel
theorem dX4_start_6 : decode cX4_start 6 = .ok (.invokevirtual 192, 3) := by decide +kernel
theorem dX4_start_9 : decode cX4_start 9 = .ok (.aload_n 0, 1) := by decide +kernel
theorem dX4_start_10 : decode cX4_start 10 = .ok (.getfield 47, 3) := by decide +kernel
theorem dX4_start_13 : decode cX4_start 13 = .ok (.iconst 0, 1) := by decide +kernel
theorem dX4_start_14 : decode cX4_start 14 = .ok (.aload_n 0, 1) := by decide +kernel
theorem dX4_start_15 : decode cX4_start 15 = .ok (.getfield 74, 3) := by decide +kernel
theorem dX4_start_18 : decode cX4_start 18 = .ok (.iload_n 1, 1) := by decide +kernel
theorem dX4_start_19 : decode cX4_start 19 = .ok (.invokevirtual 172, 3) := by decide +kernel
theorem dX4_start_22 : decode cX4_start 22 = .ok (.return_, 1) := by decide +kernel
theorem dX4_stop_0 : decode cX4_stop 0 = .ok (.aload_n 0, 1) := by decide +kernel
theorem dX4_stop_1 : decode cX4_stop 1 = .ok (.getfield 26, 3) := by decide +kernel
theorem dX4_stop_4 : decode cX4_stop 4 = .ok (.iload_n 1, 1) := by decide +kernel
theorem dX4_stop_5 : decode cX4_stop 5 = .ok (.invokevirtual 196, 3) := by decide +kernel
theorem dX4_stop_8 : decode cX4_stop 8 = .ok (.ifCond .ne 5, 3) := by decide +kernel
theorem dX4_stop_11 : decode cX4_stop 11 = .ok (.iconst 0, 1) := by decide +kernel
theorem dX4_stop_12 : decode cX4_stop 12 = .ok (.ireturn, 1) := by decide +kernel
theorem dX4_stop_13 : decode cX4_stop 13 = .ok (.aload_n 0, 1) := by decide +kernel
theorem dX4_stop_14 : decode cX4_stop 14 = .ok (.getfield 26, 3) := by decide +kernel
theorem dX4_stop_17 : decode cX4_stop 17 = .ok (.iload_n 1, 1) := by decide +kernel
theorem dX4_stop_18 : decode cX4_stop 18 = .ok (.invokevirtual 199, 3) := by decide +kernel
theorem dX4_stop_21 : decode cX4_stop 21 = .ok (.aload_n 0, 1) := by decide +kernel
theorem dX4_stop_22 : decode cX4_stop 22 = .ok (.getfield 47, 3) := by decide +kernel
theorem dX4_stop_25 : decode cX4_stop 25 = .ok (.iconst 1, 1) := by decide +kernel
theorem dX4_stop_26 : decode cX4_stop 26 = .ok (.aload_n 0, 1) := by decide +kernel
theorem dX4_stop_27 : decode cX4_stop 27 = .ok (.getfield 74, 3) := by decide +kernel
theorem dX4_stop_30 : decode cX4_stop 30 = .ok (.iload_n 1, 1) := by decide +kernel
theorem dX4_stop_31 : decode cX4_stop 31 = .ok (.invokevirtual 172, 3) := by decide +kernel
theorem dX4_stop_34 : decode cX4_stop 34 = .ok (.iconst 1, 1) := by decide +kernel
theorem dX4_stop_35 : decode cX4_stop 35 = .ok (.ireturn, 1) := by decide +kernel
theorem dX4_adjustSpeed_0 : decode cX4_adjustSpeed 0 = .ok (.aload_n 0, 1) := by decide +kernel
theorem dX4_adjustSpeed_1 : decode cX4_adjustSpeed 1 = .ok (.getfield 26, 3) := by decide +kernel
theorem dX4_adjustSpeed_4 : decode cX4_adjustSpeed 4 = .ok (.invokevirtual 201, 3) := by decide +kernel
theorem dX4_adjustSpeed_7 : decode cX4_adjustSpeed 7 = .ok (.ifCond .ne 4, 3) := by decide +kernel
theorem dX4_adjustSpeed_10 : decode cX4_adjustSpeed 10 = .ok (.return_, 1) := by decide +kernel
theorem dX4_adjustSpeed_11 : decode cX4_adjustSpeed 11 = .ok (.aload_n 0, 1) := by decide +kernel
theorem dX4_adjustSpeed_12 : decode cX4_adjustSpeed 12 = .ok (.getfield 18, 3) := by decide +kernel
theorem dX4_adjustSpeed_15 : decode cX4_adjustSpeed 15 = .ok (.iconst 0, 1) := by decide +kernel
theorem dX4_adjustSpeed_16 : decode cX4_adjustSpeed 16 = .ok (.iaload, 1) := by decide +kernel
theorem dX4_adjustSpeed_17 : decode cX4_adjustSpeed 17 = .ok (.aload_n 0, 1) := by decide +kernel
theorem dX4_adjustSpeed_18 : decode cX4_adjustSpeed 18 = .ok (.getfield 77, 3) := by decide +kernel
theorem dX4_adjustSpeed_21 : decode cX4_adjustSpeed 21 = .ok (.isub, 1) := by decide +kernel
theorem dX4_adjustSpeed_22 : decode cX4_adjustSpeed 22 = .ok (.aload_n 0, 1) := by decide +kernel
theorem dX4_adjustSpeed_23 : decode cX4_adjustSpeed 23 = .ok (.getfield 18, 3) := by decide +kernel
theorem dX4_adjustSpeed_26 : decode cX4_adjustSpeed 26 = .ok (.iconst 2, 1) := by decide +kernel
theorem dX4_adjustSpeed_27 : decode cX4_adjustSpeed 27 = .ok (.iaload, 1) := by decide +kernel
theorem dX4_adjustSpeed_28 : decode cX4_adjustSpeed 28 = .ok (.imul, 1) := by decide +kernel
theorem dX4_adjustSpeed_29 : decode cX4_adjustSpeed 29 = .ok (.bipush 100, 2) := by decide +kernel
theorem dX4_adjustSpeed_31 : decode cX4_adjustSpeed 31 = .ok (.idiv, 1) := by decide +kernel
theorem dX4_adjustSpeed_32 : decode cX4_adjustSpeed 32 = .ok (.istore_n 1, 1) := by decide +kernel
theorem dX4_adjustSpeed_33 : decode cX4_adjustSpeed 33 = .ok (.iload_n 1, 1) := by decide +kernel
theorem dX4_adjustSpeed_34 : decode cX4_adjustSpeed 34 = .ok (.aload_n 0, 1) := by decide +kernel
theorem dX4_adjustSpeed_35 : decode cX4_adjustSpeed 35 = .ok (.getfield 18, 3) := by decide +kernel
theorem dX4_adjustSpeed_38 : decode cX4_adjustSpeed 38 = .ok (.iconst 3, 1) := by decide +kernel
theorem dX4_adjustSpeed_39 : decode cX4_adjustSpeed 39 = .ok (.iaload, 1) := by decide +kernel
theorem dX4_adjustSpeed_40 : decode cX4_adjustSpeed 40 = .ok (.ineg, 1) := by decide +kernel
theorem dX4_adjustSpeed_41 : decode cX4_adjustSpeed 41 = .ok (.aload_n 0, 1) := by decide +kernel
theorem dX4_adjustSpeed_42 : decode cX4_adjustSpeed 42 = .ok (.getfield 18, 3) := by decide +kernel
theorem dX4_adjustSpeed_45 : decode cX4_adjustSpeed 45 = .ok (.iconst 3, 1) := by decide +kernel
theorem dX4_adjustSpeed_46 : decode cX4_adjustSpeed 46 = .ok (.iaload, 1) := by decide +kernel
theorem dX4_adjustSpeed_47 : decode cX4_adjustSpeed 47 = .ok (.invokestatic 159, 3) := by decide +kernel
theorem dX4_adjustSpeed_50 : decode cX4_adjustSpeed 50 = .ok (.istore_n 2, 1) := by decide +kernel
theorem dX4_adjustSpeed_51 : decode cX4_adjustSpeed 51 = .ok (.aload_n 0, 1) := by decide +kernel
theorem dX4_adjustSpeed_52 : decode cX4_adjustSpeed 52 = .ok (.getfield 26, 3) := by decide +kernel
theorem dX4_adjustSpeed_55 : decode cX4_adjustSpeed 55 = .ok (.getfield 205, 3) := by decide +kernel
theorem dX4_adjustSpeed_58 : decode cX4_adjustSpeed 58 = .ok (.aload_n 0, 1) := by decide +kernel
theorem dX4_adjustSpeed_59 : decode cX4_adjustSpeed 59 = .ok (.getfield 26, 3) := by decide +kernel
theorem dX4_adjustSpeed_62 : decode cX4_adjustSpeed 62 = .ok (.getfield 208, 3) := by decide +kernel
theorem dX4_adjustSpeed_65 : decode cX4_adjustSpeed 65 = .ok (.iaload, 1) := by decide +kernel
theorem dX4_adjustSpeed_66 : decode cX4_adjustSpeed 66 = .ok (.iload_n 2, 1) := by decide +kernel
theorem dX4_adjustSpeed_67 : decode cX4_adjustSpeed 67 = .ok (.iadd, 1) := by decide +kernel
theorem dX4_adjustSpeed_68 : decode cX4_adjustSpeed 68 = .ok (.istore_n 3, 1) := by decide +kernel
theorem dX4_adjustSpeed_69 : decode cX4_adjustSpeed 69 = .ok (.aload_n 0, 1) := by decide +kernel
theorem dX4_adjustSpeed_70 : decode cX4_adjustSpeed 70 = .ok (.getfield 26, 3) := by decide +kernel
theorem dX4_adjustSpeed_73 : decode cX4_adjustSpeed 73 = .ok (.getfield 205, 3) := by decide +kernel
theorem dX4_adjustSpeed_76 : decode cX4_adjustSpeed 76 = .ok (.aload_n 0, 1) := by decide +kernel
theorem dX4_adjustSpeed_77 : decode cX4_adjustSpeed 77 = .ok (.getfield 26, 3) := by decide +kernel
theorem dX4_adjustSpeed_80 : decode cX4_adjustSpeed 80 = .ok (.getfield 208, 3) := by decide +kernel
theorem dX4_adjustSpeed_83 : decode cX4_adjustSpeed 83 = .ok (.iload_n 3, 1) := by decide +kernel
theorem dX4_adjustSpeed_84 : decode cX4_adjustSpeed 84 = .ok (.aload_n 0, 1) := by decide +kernel
theorem dX4_adjustSpeed_85 : decode cX4_adjustSpeed 85 = .ok (.getfield 18, 3) := by decide +kernel
theorem dX4_adjustSpeed_88 : decode cX4_adjustSpeed 88 = .ok (.iconst 4, 1) := by decide +kernel
theorem dX4_adjustSpeed_89 : decode cX4_adjustSpeed 89 = .ok (.iaload, 1) := by decide +kernel
theorem dX4_adjustSpeed_90 : decode cX4_adjustSpeed 90 = .ok (.sipush 1000, 3) := by decide +kernel
theorem dX4_adjustSpeed_93 : decode cX4_adjustSpeed 93 = .ok (.invokestatic 159, 3) := by decide +kernel
theorem dX4_adjustSpeed_96 : decode cX4_adjustSpeed 96 = .ok (.iastore, 1) := by decide +kernel
theorem dX4_adjustSpeed_97 : decode cX4_adjustSpeed 97 = .ok (.return_, 1) := by decide +kernel
theorem dX4_wake_0 : decode cX4_wake 0 = .ok (.aload_n 0, 1) := by decide +kernel
theorem dX4_wake_1 : decode cX4_wake 1 = .ok (.getfield 26, 3) := by decide +kernel
theorem dX4_wake_4 : decode cX4_wake 4 = .ok (.invokevirtual 211, 3) := by decide +kernel
theorem dX4_wake_7 : decode cX4_wake 7 = .ok (.ifCond .gt 24, 3) := by decide +kernel
theorem dX4_wake_10 : decode cX4_wake 10 = .ok (.aload_n 0, 1) := by decide +kernel
theorem dX4_wake_11 : decode cX4_wake 11 = .ok (.getfield 77, 3) := by decide +kernel
theorem dX4_wake_14 : decode cX4_wake 14 = .ok (.aload_n 0, 1) := by decide +kernel
theorem dX4_wake_15 : decode cX4_wake 15 = .ok (.getfield 18, 3) := by decide +kernel
theorem dX4_wake_18 : decode cX4_wake 18 = .ok (.iconst 0, 1) := by decide +kernel
theorem dX4_wake_19 : decode cX4_wake 19 = .ok (.iaload, 1) := by decide +kernel
theorem dX4_wake_20 : decode cX4_wake 20 = .ok (.aload_n 0, 1) := by decide +kernel
theorem dX4_wake_21 : decode cX4_wake 21 = .ok (.getfield 18, 3) := by decide +kernel
theorem dX4_wake_24 : decode cX4_wake 24 = .ok (.bipush 9, 2) := by decide +kernel
theorem dX4_wake_26 : decode cX4_wake 26 = .ok (.iaload, 1) := by decide +kernel
theorem dX4_wake_27 : decode cX4_wake 27 = .ok (.isub, 1) := by decide +kernel
theorem dX4_wake_28 : decode cX4_wake 28 = .ok (.if_icmp .lt 4, 3) := by decide +kernel
theorem dX4_wake_31 : decode cX4_wake 31 = .ok (.return_, 1) := by decide +kernel
theorem dX4_wake_32 : decode cX4_wake 32 = .ok (.aload_n 0, 1) := by decide +kernel
theorem dX4_wake_33 : decode cX4_wake 33 = .ok (.getfield 26, 3) := by decide +kernel
theorem dX4_wake_36 : decode cX4_wake 36 = .ok (.iconst 0, 1) := by decide +kernel
theorem dX4_wake_37 : decode cX4_wake 37 = .ok (.invokevirtual 214, 3) := by decide +kernel
theorem dX4_wake_40 : decode cX4_wake 40 = .ok (.istore_n 1, 1) := by decide +kernel
theorem dX4_wake_41 : decode cX4_wake 41 = .ok (.iload_n 1, 1) := by decide +kernel
theorem dX4_wake_42 : decode cX4_wake 42 = .ok (.iconst (-1), 1) := by decide +kernel
theorem dX4_wake_43 : decode cX4_wake 43 = .ok (.if_icmp .eq 27, 3) := by decide +kernel
theorem dX4_wake_46 : decode cX4_wake 46 = .ok (.aload_n 0, 1) := by decide +kernel
theorem dX4_wake_47 : decode cX4_wake 47 = .ok (.iload_n 1, 1) := by decide +kernel
theorem dX4_wake_48 : decode cX4_wake 48 = .ok (.aload_n 0, 1) := by decide +kernel
theorem dX4_wake_49 : decode cX4_wake 49 = .ok (.getfield 18, 3) := by decide +kernel
theorem dX4_wake_52 : decode cX4_wake 52 = .ok (.iconst 4, 1) := by decide +kernel
theorem dX4_wake_53 : decode cX4_wake 53 = .ok (.iaload, 1) := by decide +kernel
theorem dX4_wake_54 : decode cX4_wake 54 = .ok (.invokevirtual 217, 3) := by decide +kernel
theorem dX4_wake_57 : decode cX4_wake 57 = .ok (.aload_n 0, 1) := by decide +kernel
theorem dX4_wake_58 : decode cX4_wake 58 = .ok (.getfield 47, 3) := by decide +kernel
theorem dX4_wake_61 : decode cX4_wake 61 = .ok (.iconst 3, 1) := by decide +kernel
theorem dX4_wake_62 : decode cX4_wake 62 = .ok (.aload_n 0, 1) := by decide +kernel
theorem dX4_wake_63 : decode cX4_wake 63 = .ok (.getfield 74, 3) := by decide +kernel
theorem dX4_wake_66 : decode cX4_wake 66 = .ok (.iconst (-1), 1) := by decide +kernel
theorem dX4_wake_67 : decode cX4_wake 67 = .ok (.invokevirtual 172, 3) := by decide +kernel
theorem dX4_wake_70 : decode cX4_wake 70 = .ok (.return_, 1) := by decide +kernel
theorem dX4_beginMinutesAnew_0 : decode cX4_beginMinutesAnew 0 = .ok (.aload_n 0, 1) := by decide +kernel
theorem dX4_beginMinutesAnew_1 : decode cX4_beginMinutesAnew 1 = .ok (.iconst 0, 1) := by decide +kernel
theorem dX4_beginMinutesAnew_2 : decode cX4_beginMinutesAnew 2 = .ok (.putfield 99, 3) := by decide +kernel
theorem dX4_beginMinutesAnew_5 : decode cX4_beginMinutesAnew 5 = .ok (.aload_n 0, 1) := by decide +kernel
theorem dX4_beginMinutesAnew_6 : decode cX4_beginMinutesAnew 6 = .ok (.iconst 0, 1) := by decide +kernel
theorem dX4_beginMinutesAnew_7 : decode cX4_beginMinutesAnew 7 = .ok (.putfield 102, 3) := by decide +kernel
theorem dX4_beginMinutesAnew_10 : decode cX4_beginMinutesAnew 10 = .ok (.aload_n 0, 1) := by decide +kernel
theorem dX4_beginMinutesAnew_11 : decode cX4_beginMinutesAnew 11 = .ok (.iconst 0, 1) := by decide +kernel
theorem dX4_beginMinutesAnew_12 : decode cX4_beginMinutesAnew 12 = .ok (.putfield 105, 3) := by decide +kernel
theorem dX4_beginMinutesAnew_15 : decode cX4_beginMinutesAnew 15 = .ok (.return_, 1) := by decide +kernel
theorem dX4_countMinutes_0 : decode cX4_countMinutes 0 = .ok (.aload_n 0, 1) := by decide +kernel
theorem dX4_countMinutes_1 : decode cX4_countMinutes 1 = .ok (.getfield 26, 3) := by decide +kernel
theorem dX4_countMinutes_4 : decode cX4_countMinutes 4 = .ok (.invokevirtual 211, 3) := by decide +kernel
theorem dX4_countMinutes_7 : decode cX4_countMinutes 7 = .ok (.istore_n 1, 1) := by decide +kernel
theorem dX4_countMinutes_8 : decode cX4_countMinutes 8 = .ok (.aload_n 0, 1) := by decide +kernel
theorem dX4_countMinutes_9 : decode cX4_countMinutes 9 = .ok (.getfield 77, 3) := by decide +kernel
theorem dX4_countMinutes_12 : decode cX4_countMinutes 12 = .ok (.aload_n 0, 1) := by decide +kernel
theorem dX4_countMinutes_13 : decode cX4_countMinutes 13 = .ok (.getfield 18, 3) := by decide +kernel
theorem dX4_countMinutes_16 : decode cX4_countMinutes 16 = .ok (.iconst 0, 1) := by decide +kernel
theorem dX4_countMinutes_17 : decode cX4_countMinutes 17 = .ok (.iaload, 1) := by decide +kernel
theorem dX4_countMinutes_18 : decode cX4_countMinutes 18 = .ok (.aload_n 0, 1) := by decide +kernel
theorem dX4_countMinutes_19 : decode cX4_countMinutes 19 = .ok (.getfield 18, 3) := by decide +kernel
theorem dX4_countMinutes_22 : decode cX4_countMinutes 22 = .ok (.iconst 1, 1) := by decide +kernel
theorem dX4_countMinutes_23 : decode cX4_countMinutes 23 = .ok (.iaload, 1) := by decide +kernel
theorem dX4_countMinutes_24 : decode cX4_countMinutes 24 = .ok (.isub, 1) := by decide +kernel
theorem dX4_countMinutes_25 : decode cX4_countMinutes 25 = .ok (.if_icmp .ge 7, 3) := by decide +kernel
theorem dX4_countMinutes_28 : decode cX4_countMinutes 28 = .ok (.iconst 1, 1) := by decide +kernel
theorem dX4_countMinutes_29 : decode cX4_countMinutes 29 = .ok (.goto 4, 3) := by decide +kernel
theorem dX4_countMinutes_32 : decode cX4_countMinutes 32 = .ok (.iconst 0, 1) := by decide +kernel
theorem dX4_countMinutes_33 : decode cX4_countMinutes 33 = .ok (.istore_n 2, 1) := by decide +kernel
theorem dX4_countMinutes_34 : decode cX4_countMinutes 34 = .ok (.aload_n 0, 1) := by decide +kernel
theorem dX4_countMinutes_35 : decode cX4_countMinutes 35 = .ok (.getfield 77, 3) := by decide +kernel
theorem dX4_countMinutes_38 : decode cX4_countMinutes 38 = .ok (.aload_n 0, 1) := by decide +kernel
theorem dX4_countMinutes_39 : decode cX4_countMinutes 39 = .ok (.getfield 18, 3) := by decide +kernel
theorem dX4_countMinutes_42 : decode cX4_countMinutes 42 = .ok (.iconst 0, 1) := by decide +kernel
theorem dX4_countMinutes_43 : decode cX4_countMinutes 43 = .ok (.iaload, 1) := by decide +kernel
theorem dX4_countMinutes_44 : decode cX4_countMinutes 44 = .ok (.aload_n 0, 1) := by decide +kernel
theorem dX4_countMinutes_45 : decode cX4_countMinutes 45 = .ok (.getfield 18, 3) := by decide +kernel
theorem dX4_countMinutes_48 : decode cX4_countMinutes 48 = .ok (.iconst 1, 1) := by decide +kernel
theorem dX4_countMinutes_49 : decode cX4_countMinutes 49 = .ok (.iaload, 1) := by decide +kernel
theorem dX4_countMinutes_50 : decode cX4_countMinutes 50 = .ok (.iadd, 1) := by decide +kernel
theorem dX4_countMinutes_51 : decode cX4_countMinutes 51 = .ok (.if_icmp .le 7, 3) := by decide +kernel
theorem dX4_countMinutes_54 : decode cX4_countMinutes 54 = .ok (.iconst 1, 1) := by decide +kernel
theorem dX4_countMinutes_55 : decode cX4_countMinutes 55 = .ok (.goto 4, 3) := by decide +kernel
theorem dX4_countMinutes_58 : decode cX4_countMinutes 58 = .ok (.iconst 0, 1) := by decide +kernel
theorem dX4_countMinutes_59 : decode cX4_countMinutes 59 = .ok (.istore_n 3, 1) := by decide +kernel
theorem dX4_countMinutes_60 : decode cX4_countMinutes 60 = .ok (.aload_n 0, 1) := by decide +kernel
theorem dX4_countMinutes_61 : decode cX4_countMinutes 61 = .ok (.getfield 26, 3) := by decide +kernel
theorem dX4_countMinutes_64 : decode cX4_countMinutes 64 = .ok (.invokevirtual 201, 3) := by decide +kernel
theorem dX4_countMinutes_67 : decode cX4_countMinutes 67 = .ok (.ifCond .ne 7, 3) := by decide +kernel
theorem dX4_countMinutes_70 : decode cX4_countMinutes 70 = .ok (.iconst 1, 1) := by decide +kernel
theorem dX4_countMinutes_71 : decode cX4_countMinutes 71 = .ok (.goto 4, 3) := by decide +kernel
theorem dX4_countMinutes_74 : decode cX4_countMinutes 74 = .ok (.iconst 0, 1) := by decide +kernel
theorem dX4_countMinutes_75 : decode cX4_countMinutes 75 = .ok (.istore 4, 2) := by decide +kernel
theorem dX4_countMinutes_77 : decode cX4_countMinutes 77 = .ok (.aload_n 0, 1) := by decide +kernel
theorem dX4_countMinutes_78 : decode cX4_countMinutes 78 = .ok (.getfield 26, 3) := by decide +kernel
theorem dX4_countMinutes_81 : decode cX4_countMinutes 81 = .ok (.sipush 1000, 3) := by decide +kernel
theorem dX4_countMinutes_84 : decode cX4_countMinutes 84 = .ok (.invokevirtual 218, 3) := by decide +kernel
theorem dX4_countMinutes_87 : decode cX4_countMinutes 87 = .ok (.istore 5, 2) := by decide +kernel
theorem dX4_countMinutes_89 : decode cX4_countMinutes 89 = .ok (.aload_n 0, 1) := by decide +kernel
theorem dX4_countMinutes_90 : decode cX4_countMinutes 90 = .ok (.getfield 26, 3) := by decide +kernel
theorem dX4_countMinutes_93 : decode cX4_countMinutes 93 = .ok (.aload_n 0, 1) := by decide +kernel
theorem dX4_countMinutes_94 : decode cX4_countMinutes 94 = .ok (.getfield 18, 3) := by decide +kernel
theorem dX4_countMinutes_97 : decode cX4_countMinutes 97 = .ok (.iconst 4, 1) := by decide +kernel
theorem dX4_countMinutes_98 : decode cX4_countMinutes 98 = .ok (.iaload, 1) := by decide +kernel
theorem dX4_countMinutes_99 : decode cX4_countMinutes 99 = .ok (.invokevirtual 218, 3) := by decide +kernel
theorem dX4_countMinutes_102 : decode cX4_countMinutes 102 = .ok (.istore 6, 2) := by decide +kernel
theorem dX4_countMinutes_104 : decode cX4_countMinutes 104 = .ok (.iload_n 1, 1) := by decide +kernel
theorem dX4_countMinutes_105 : decode cX4_countMinutes 105 = .ok (.ifCond .le 21, 3) := by decide +kernel
theorem dX4_countMinutes_108 : decode cX4_countMinutes 108 = .ok (.iload_n 2, 1) := by decide +kernel
theorem dX4_countMinutes_109 : decode cX4_countMinutes 109 = .ok (.ifCond .eq 17, 3) := by decide +kernel
theorem dX4_countMinutes_112 : decode cX4_countMinutes 112 = .ok (.iload 4, 2) := by decide +kernel
theorem dX4_countMinutes_114 : decode cX4_countMinutes 114 = .ok (.ifCond .ne 8, 3) := by decide +kernel
theorem dX4_countMinutes_117 : decode cX4_countMinutes 117 = .ok (.iload 5, 2) := by decide +kernel
theorem dX4_countMinutes_119 : decode cX4_countMinutes 119 = .ok (.ifCond .eq 7, 3) := by decide +kernel
theorem dX4_countMinutes_122 : decode cX4_countMinutes 122 = .ok (.iconst 1, 1) := by decide +kernel
theorem dX4_countMinutes_123 : decode cX4_countMinutes 123 = .ok (.goto 4, 3) := by decide +kernel
theorem dX4_countMinutes_126 : decode cX4_countMinutes 126 = .ok (.iconst 0, 1) := by decide +kernel
theorem dX4_countMinutes_127 : decode cX4_countMinutes 127 = .ok (.istore 7, 2) := by decide +kernel
theorem dX4_countMinutes_129 : decode cX4_countMinutes 129 = .ok (.iload_n 1, 1) := by decide +kernel
theorem dX4_countMinutes_130 : decode cX4_countMinutes 130 = .ok (.ifCond .le 21, 3) := by decide +kernel
theorem dX4_countMinutes_133 : decode cX4_countMinutes 133 = .ok (.iload_n 3, 1) := by decide +kernel
theorem dX4_countMinutes_134 : decode cX4_countMinutes 134 = .ok (.ifCond .eq 17, 3) := by decide +kernel
theorem dX4_countMinutes_137 : decode cX4_countMinutes 137 = .ok (.iload 4, 2) := by decide +kernel
theorem dX4_countMinutes_139 : decode cX4_countMinutes 139 = .ok (.ifCond .ne 8, 3) := by decide +kernel
theorem dX4_countMinutes_142 : decode cX4_countMinutes 142 = .ok (.iload 6, 2) := by decide +kernel
theorem dX4_countMinutes_144 : decode cX4_countMinutes 144 = .ok (.ifCond .eq 7, 3) := by decide +kernel
theorem dX4_countMinutes_147 : decode cX4_countMinutes 147 = .ok (.iconst 1, 1) := by decide +kernel
theorem dX4_countMinutes_148 : decode cX4_countMinutes 148 = .ok (.goto 4, 3) := by decide +kernel
theorem dX4_countMinutes_151 : decode cX4_countMinutes 151 = .ok (.iconst 0, 1) := by decide +kernel
theorem dX4_countMinutes_152 : decode cX4_countMinutes 152 = .ok (.istore 8, 2) := by decide +kernel
theorem dX4_countMinutes_154 : decode cX4_countMinutes 154 = .ok (.iload_n 1, 1) := by decide +kernel
theorem dX4_countMinutes_155 : decode cX4_countMinutes 155 = .ok (.iconst 1, 1) := by decide +kernel
theorem dX4_countMinutes_156 : decode cX4_countMinutes 156 = .ok (.if_icmp .ne 26, 3) := by decide +kernel
theorem dX4_countMinutes_159 : decode cX4_countMinutes 159 = .ok (.iload 6, 2) := by decide +kernel
theorem dX4_countMinutes_161 : decode cX4_countMinutes 161 = .ok (.ifCond .eq 21, 3) := by decide +kernel
theorem dX4_countMinutes_164 : decode cX4_countMinutes 164 = .ok (.aload_n 0, 1) := by decide +kernel
theorem dX4_countMinutes_165 : decode cX4_countMinutes 165 = .ok (.getfield 83, 3) := by decide +kernel
theorem dX4_countMinutes_168 : decode cX4_countMinutes 168 = .ok (.aload_n 0, 1) := by decide +kernel
theorem dX4_countMinutes_169 : decode cX4_countMinutes 169 = .ok (.getfield 18, 3) := by decide +kernel
theorem dX4_countMinutes_172 : decode cX4_countMinutes 172 = .ok (.bipush 7, 2) := by decide +kernel
theorem dX4_countMinutes_174 : decode cX4_countMinutes 174 = .ok (.iaload, 1) := by decide +kernel
theorem dX4_countMinutes_175 : decode cX4_countMinutes 175 = .ok (.if_icmp .ge 7, 3) := by decide +kernel
theorem dX4_countMinutes_178 : decode cX4_countMinutes 178 = .ok (.iconst 1, 1) := by decide +kernel
theorem dX4_countMinutes_179 : decode cX4_countMinutes 179 = .ok (.goto 4, 3) := by decide +kernel
theorem dX4_countMinutes_182 : decode cX4_countMinutes 182 = .ok (.iconst 0, 1) := by decide +kernel
theorem dX4_countMinutes_183 : decode cX4_countMinutes 183 = .ok (.istore 9, 2) := by decide +kernel
theorem dX4_countMinutes_185 : decode cX4_countMinutes 185 = .ok (.aload_n 0, 1) := by decide +kernel
theorem dX4_countMinutes_186 : decode cX4_countMinutes 186 = .ok (.iload 7, 2) := by decide +kernel
theorem dX4_countMinutes_188 : decode cX4_countMinutes 188 = .ok (.ifCond .eq 12, 3) := by decide +kernel
theorem dX4_countMinutes_191 : decode cX4_countMinutes 191 = .ok (.aload_n 0, 1) := by decide +kernel
theorem dX4_countMinutes_192 : decode cX4_countMinutes 192 = .ok (.getfield 99, 3) := by decide +kernel
theorem dX4_countMinutes_195 : decode cX4_countMinutes 195 = .ok (.iconst 1, 1) := by decide +kernel
theorem dX4_countMinutes_196 : decode cX4_countMinutes 196 = .ok (.iadd, 1) := by decide +kernel
theorem dX4_countMinutes_197 : decode cX4_countMinutes 197 = .ok (.goto 4, 3) := by decide +kernel
theorem dX4_countMinutes_200 : decode cX4_countMinutes 200 = .ok (.iconst 0, 1) := by decide +kernel
theorem dX4_countMinutes_201 : decode cX4_countMinutes 201 = .ok (.putfield 99, 3) := by decide +kernel
theorem dX4_countMinutes_204 : decode cX4_countMinutes 204 = .ok (.aload_n 0, 1) := by decide +kernel
theorem dX4_countMinutes_205 : decode cX4_countMinutes 205 = .ok (.iload 8, 2) := by decide +kernel
theorem dX4_countMinutes_207 : decode cX4_countMinutes 207 = .ok (.ifCond .eq 12, 3) := by decide +kernel
theorem dX4_countMinutes_210 : decode cX4_countMinutes 210 = .ok (.aload_n 0, 1) := by decide +kernel
theorem dX4_countMinutes_211 : decode cX4_countMinutes 211 = .ok (.getfield 102, 3) := by decide +kernel
theorem dX4_countMinutes_214 : decode cX4_countMinutes 214 = .ok (.iconst 1, 1) := by decide +kernel
theorem dX4_countMinutes_215 : decode cX4_countMinutes 215 = .ok (.iadd, 1) := by decide +kernel
theorem dX4_countMinutes_216 : decode cX4_countMinutes 216 = .ok (.goto 4, 3) := by decide +kernel
theorem dX4_countMinutes_219 : decode cX4_countMinutes 219 = .ok (.iconst 0, 1) := by decide +kernel
theorem dX4_countMinutes_220 : decode cX4_countMinutes 220 = .ok (.putfield 102, 3) := by decide +kernel
theorem dX4_countMinutes_223 : decode cX4_countMinutes 223 = .ok (.aload_n 0, 1) := by decide +kernel
theorem dX4_countMinutes_224 : decode cX4_countMinutes 224 = .ok (.iload 9, 2) := by decide +kernel
theorem dX4_countMinutes_226 : decode cX4_countMinutes 226 = .ok (.ifCond .eq 12, 3) := by decide +kernel
theorem dX4_countMinutes_229 : decode cX4_countMinutes 229 = .ok (.aload_n 0, 1) := by decide +kernel
theorem dX4_countMinutes_230 : decode cX4_countMinutes 230 = .ok (.getfield 105, 3) := by decide +kernel
theorem dX4_countMinutes_233 : decode cX4_countMinutes 233 = .ok (.iconst 1, 1) := by decide +kernel
theorem dX4_countMinutes_234 : decode cX4_countMinutes 234 = .ok (.iadd, 1) := by decide +kernel
theorem dX4_countMinutes_235 : decode cX4_countMinutes 235 = .ok (.goto 4, 3) := by decide +kernel
theorem dX4_countMinutes_238 : decode cX4_countMinutes 238 = .ok (.iconst 0, 1) := by decide +kernel
theorem dX4_countMinutes_239 : decode cX4_countMinutes 239 = .ok (.putfield 105, 3) := by decide +kernel
theorem dX4_countMinutes_242 : decode cX4_countMinutes 242 = .ok (.return_, 1) := by decide +kernel
theorem dX4_cascade_0 : decode cX4_cascade 0 = .ok (.aload_n 0, 1) := by decide +kernel
theorem dX4_cascade_1 : decode cX4_cascade 1 = .ok (.getfield 26, 3) := by decide +kernel
theorem dX4_cascade_4 : decode cX4_cascade 4 = .ok (.iconst 0, 1) := by decide +kernel
theorem dX4_cascade_5 : decode cX4_cascade 5 = .ok (.invokevirtual 214, 3) := by decide +kernel
theorem dX4_cascade_8 : decode cX4_cascade 8 = .ok (.istore_n 1, 1) := by decide +kernel
theorem dX4_cascade_9 : decode cX4_cascade 9 = .ok (.iload_n 1, 1) := by decide +kernel
theorem dX4_cascade_10 : decode cX4_cascade 10 = .ok (.iconst (-1), 1) := by decide +kernel
theorem dX4_cascade_11 : decode cX4_cascade 11 = .ok (.if_icmp .eq 30, 3) := by decide +kernel
theorem dX4_cascade_14 : decode cX4_cascade 14 = .ok (.aload_n 0, 1) := by decide +kernel
theorem dX4_cascade_15 : decode cX4_cascade 15 = .ok (.getfield 99, 3) := by decide +kernel
theorem dX4_cascade_18 : decode cX4_cascade 18 = .ok (.aload_n 0, 1) := by decide +kernel
theorem dX4_cascade_19 : decode cX4_cascade 19 = .ok (.getfield 18, 3) := by decide +kernel
theorem dX4_cascade_22 : decode cX4_cascade 22 = .ok (.iconst 5, 1) := by decide +kernel
theorem dX4_cascade_23 : decode cX4_cascade 23 = .ok (.iaload, 1) := by decide +kernel
theorem dX4_cascade_24 : decode cX4_cascade 24 = .ok (.if_icmp .lt 17, 3) := by decide +kernel
theorem dX4_cascade_27 : decode cX4_cascade 27 = .ok (.aload_n 0, 1) := by decide +kernel
theorem dX4_cascade_28 : decode cX4_cascade 28 = .ok (.iload_n 1, 1) := by decide +kernel
theorem dX4_cascade_29 : decode cX4_cascade 29 = .ok (.aload_n 0, 1) := by decide +kernel
theorem dX4_cascade_30 : decode cX4_cascade 30 = .ok (.getfield 18, 3) := by decide +kernel
theorem dX4_cascade_33 : decode cX4_cascade 33 = .ok (.iconst 4, 1) := by decide +kernel
theorem dX4_cascade_34 : decode cX4_cascade 34 = .ok (.iaload, 1) := by decide +kernel
theorem dX4_cascade_35 : decode cX4_cascade 35 = .ok (.invokevirtual 217, 3) := by decide +kernel
theorem dX4_cascade_38 : decode cX4_cascade 38 = .ok (.goto 96, 3) := by decide +kernel
theorem dX4_cascade_41 : decode cX4_cascade 41 = .ok (.aload_n 0, 1) := by decide +kernel
theorem dX4_cascade_42 : decode cX4_cascade 42 = .ok (.getfield 102, 3) := by decide +kernel
theorem dX4_cascade_45 : decode cX4_cascade 45 = .ok (.aload_n 0, 1) := by decide +kernel
theorem dX4_cascade_46 : decode cX4_cascade 46 = .ok (.getfield 18, 3) := by decide +kernel
theorem dX4_cascade_49 : decode cX4_cascade 49 = .ok (.bipush 6, 2) := by decide +kernel
theorem dX4_cascade_51 : decode cX4_cascade 51 = .ok (.iaload, 1) := by decide +kernel
theorem dX4_cascade_52 : decode cX4_cascade 52 = .ok (.if_icmp .lt 39, 3) := by decide +kernel
theorem dX4_cascade_55 : decode cX4_cascade 55 = .ok (.aload_n 0, 1) := by decide +kernel
theorem dX4_cascade_56 : decode cX4_cascade 56 = .ok (.getfield 26, 3) := by decide +kernel
theorem dX4_cascade_59 : decode cX4_cascade 59 = .ok (.invokevirtual 211, 3) := by decide +kernel
theorem dX4_cascade_62 : decode cX4_cascade 62 = .ok (.iconst 1, 1) := by decide +kernel
theorem dX4_cascade_63 : decode cX4_cascade 63 = .ok (.if_icmp .gt 13, 3) := by decide +kernel
theorem dX4_cascade_66 : decode cX4_cascade 66 = .ok (.aload_n 0, 1) := by decide +kernel
theorem dX4_cascade_67 : decode cX4_cascade 67 = .ok (.getfield 26, 3) := by decide +kernel
theorem dX4_cascade_70 : decode cX4_cascade 70 = .ok (.invokevirtual 201, 3) := by decide +kernel
theorem dX4_cascade_73 : decode cX4_cascade 73 = .ok (.ifCond .ne 18, 3) := by decide +kernel
theorem dX4_cascade_76 : decode cX4_cascade 76 = .ok (.aload_n 0, 1) := by decide +kernel
theorem dX4_cascade_77 : decode cX4_cascade 77 = .ok (.aload_n 0, 1) := by decide +kernel
theorem dX4_cascade_78 : decode cX4_cascade 78 = .ok (.getfield 26, 3) := by decide +kernel
theorem dX4_cascade_81 : decode cX4_cascade 81 = .ok (.invokevirtual 221, 3) := by decide +kernel
theorem dX4_cascade_84 : decode cX4_cascade 84 = .ok (.invokevirtual 182, 3) := by decide +kernel
theorem dX4_cascade_87 : decode cX4_cascade 87 = .ok (.pop, 1) := by decide +kernel
theorem dX4_cascade_88 : decode cX4_cascade 88 = .ok (.goto 46, 3) := by decide +kernel
theorem dX4_cascade_91 : decode cX4_cascade 91 = .ok (.aload_n 0, 1) := by decide +kernel
theorem dX4_cascade_92 : decode cX4_cascade 92 = .ok (.getfield 105, 3) := by decide +kernel
theorem dX4_cascade_95 : decode cX4_cascade 95 = .ok (.aload_n 0, 1) := by decide +kernel
theorem dX4_cascade_96 : decode cX4_cascade 96 = .ok (.getfield 18, 3) := by decide +kernel
theorem dX4_cascade_99 : decode cX4_cascade 99 = .ok (.bipush 8, 2) := by decide +kernel
theorem dX4_cascade_101 : decode cX4_cascade 101 = .ok (.iaload, 1) := by decide +kernel
theorem dX4_cascade_102 : decode cX4_cascade 102 = .ok (.if_icmp .lt 31, 3) := by decide +kernel
theorem dX4_cascade_105 : decode cX4_cascade 105 = .ok (.aload_n 0, 1) := by decide +kernel
theorem dX4_cascade_106 : decode cX4_cascade 106 = .ok (.aload_n 0, 1) := by decide +kernel
theorem dX4_cascade_107 : decode cX4_cascade 107 = .ok (.getfield 26, 3) := by decide +kernel
theorem dX4_cascade_110 : decode cX4_cascade 110 = .ok (.getfield 208, 3) := by decide +kernel
theorem dX4_cascade_113 : decode cX4_cascade 113 = .ok (.invokevirtual 182, 3) := by decide +kernel
theorem dX4_cascade_116 : decode cX4_cascade 116 = .ok (.pop, 1) := by decide +kernel
theorem dX4_cascade_117 : decode cX4_cascade 117 = .ok (.aload_n 0, 1) := by decide +kernel
theorem dX4_cascade_118 : decode cX4_cascade 118 = .ok (.getfield 47, 3) := by decide +kernel
theorem dX4_cascade_121 : decode cX4_cascade 121 = .ok (.iconst 2, 1) := by decide +kernel
theorem dX4_cascade_122 : decode cX4_cascade 122 = .ok (.aload_n 0, 1) := by decide +kernel
theorem dX4_cascade_123 : decode cX4_cascade 123 = .ok (.getfield 74, 3) := by decide +kernel
theorem dX4_cascade_126 : decode cX4_cascade 126 = .ok (.iconst (-1), 1) := by decide +kernel
theorem dX4_cascade_127 : decode cX4_cascade 127 = .ok (.invokevirtual 172, 3) := by decide +kernel
theorem dX4_cascade_130 : decode cX4_cascade 130 = .ok (.goto 4, 3) := by decide +kernel
theorem dX4_cascade_133 : decode cX4_cascade 133 = .ok (.return_, 1) := by decide +kernel
theorem dX4_cascade_134 : decode cX4_cascade 134 = .ok (.aload_n 0, 1) := by decide +kernel
theorem dX4_cascade_135 : decode cX4_cascade 135 = .ok (.invokevirtual 125, 3) := by decide +kernel
theorem dX4_cascade_138 : decode cX4_cascade 138 = .ok (.return_, 1) := by decide +kernel
theorem dX4_rotate_0 : decode cX4_rotate 0 = .ok (.aload_n 0, 1) := by decide +kernel
theorem dX4_rotate_1 : decode cX4_rotate 1 = .ok (.getfield 26, 3) := by decide +kernel
theorem dX4_rotate_4 : decode cX4_rotate 4 = .ok (.getfield 208, 3) := by decide +kernel
theorem dX4_rotate_7 : decode cX4_rotate 7 = .ok (.istore_n 1, 1) := by decide +kernel
theorem dX4_rotate_8 : decode cX4_rotate 8 = .ok (.aload_n 0, 1) := by decide +kernel
theorem dX4_rotate_9 : decode cX4_rotate 9 = .ok (.getfield 18, 3) := by decide +kernel
theorem dX4_rotate_12 : decode cX4_rotate 12 = .ok (.bipush 18, 2) := by decide +kernel
theorem dX4_rotate_14 : decode cX4_rotate 14 = .ok (.iaload, 1) := by decide +kernel
theorem dX4_rotate_15 : decode cX4_rotate 15 = .ok (.ifCond .eq 32, 3) := by decide +kernel
theorem dX4_rotate_18 : decode cX4_rotate 18 = .ok (.aload_n 0, 1) := by decide +kernel
theorem dX4_rotate_19 : decode cX4_rotate 19 = .ok (.getfield 26, 3) := by decide +kernel
theorem dX4_rotate_22 : decode cX4_rotate 22 = .ok (.invokevirtual 201, 3) := by decide +kernel
theorem dX4_rotate_25 : decode cX4_rotate 25 = .ok (.ifCond .eq 22, 3) := by decide +kernel
theorem dX4_rotate_28 : decode cX4_rotate 28 = .ok (.aload_n 0, 1) := by decide +kernel
theorem dX4_rotate_29 : decode cX4_rotate 29 = .ok (.getfield 26, 3) := by decide +kernel
theorem dX4_rotate_32 : decode cX4_rotate 32 = .ok (.getfield 224, 3) := by decide +kernel
theorem dX4_rotate_35 : decode cX4_rotate 35 = .ok (.iload_n 1, 1) := by decide +kernel
theorem dX4_rotate_36 : decode cX4_rotate 36 = .ok (.iaload, 1) := by decide +kernel
theorem dX4_rotate_37 : decode cX4_rotate 37 = .ok (.aload_n 0, 1) := by decide +kernel
theorem dX4_rotate_38 : decode cX4_rotate 38 = .ok (.getfield 18, 3) := by decide +kernel
theorem dX4_rotate_41 : decode cX4_rotate 41 = .ok (.bipush 18, 2) := by decide +kernel
theorem dX4_rotate_43 : decode cX4_rotate 43 = .ok (.iaload, 1) := by decide +kernel
theorem dX4_rotate_44 : decode cX4_rotate 44 = .ok (.if_icmp .ge 4, 3) := by decide +kernel
theorem dX4_rotate_47 : decode cX4_rotate 47 = .ok (.return_, 1) := by decide +kernel
theorem dX4_rotate_48 : decode cX4_rotate 48 = .ok (.aload_n 0, 1) := by decide +kernel
theorem dX4_rotate_49 : decode cX4_rotate 49 = .ok (.getfield 26, 3) := by decide +kernel
theorem dX4_rotate_52 : decode cX4_rotate 52 = .ok (.invokevirtual 227, 3) := by decide +kernel
theorem dX4_rotate_55 : decode cX4_rotate 55 = .ok (.istore_n 2, 1) := by decide +kernel
theorem dX4_rotate_56 : decode cX4_rotate 56 = .ok (.iload_n 2, 1) := by decide +kernel
theorem dX4_rotate_57 : decode cX4_rotate 57 = .ok (.iconst (-1), 1) := by decide +kernel
theorem dX4_rotate_58 : decode cX4_rotate 58 = .ok (.if_icmp .ne 4, 3) := by decide +kernel
theorem dX4_rotate_61 : decode cX4_rotate 61 = .ok (.return_, 1) := by decide +kernel
theorem dX4_rotate_62 : decode cX4_rotate 62 = .ok (.aload_n 0, 1) := by decide +kernel
theorem dX4_rotate_63 : decode cX4_rotate 63 = .ok (.iload_n 2, 1) := by decide +kernel
theorem dX4_rotate_64 : decode cX4_rotate 64 = .ok (.aload_n 0, 1) := by decide +kernel
theorem dX4_rotate_65 : decode cX4_rotate 65 = .ok (.getfield 26, 3) := by decide +kernel
theorem dX4_rotate_68 : decode cX4_rotate 68 = .ok (.getfield 205, 3) := by decide +kernel
theorem dX4_rotate_71 : decode cX4_rotate 71 = .ok (.iload_n 1, 1) := by decide +kernel
theorem dX4_rotate_72 : decode cX4_rotate 72 = .ok (.iaload, 1) := by decide +kernel
theorem dX4_rotate_73 : decode cX4_rotate 73 = .ok (.invokevirtual 217, 3) := by decide +kernel
theorem dX4_rotate_76 : decode cX4_rotate 76 = .ok (.aload_n 0, 1) := by decide +kernel
theorem dX4_rotate_77 : decode cX4_rotate 77 = .ok (.getfield 47, 3) := by decide +kernel
theorem dX4_rotate_80 : decode cX4_rotate 80 = .ok (.bipush 7, 2) := by decide +kernel
theorem dX4_rotate_82 : decode cX4_rotate 82 = .ok (.aload_n 0, 1) := by decide +kernel
theorem dX4_rotate_83 : decode cX4_rotate 83 = .ok (.getfield 74, 3) := by decide +kernel
theorem dX4_rotate_86 : decode cX4_rotate 86 = .ok (.iload_n 2, 1) := by decide +kernel
theorem dX4_rotate_87 : decode cX4_rotate 87 = .ok (.invokevirtual 172, 3) := by decide +kernel
theorem dX4_rotate_90 : decode cX4_rotate 90 = .ok (.aload_n 0, 1) := by decide +kernel
theorem dX4_rotate_91 : decode cX4_rotate 91 = .ok (.iload_n 1, 1) := by decide +kernel
theorem dX4_rotate_92 : decode cX4_rotate 92 = .ok (.invokevirtual 182, 3) := by decide +kernel
theorem dX4_rotate_95 : decode cX4_rotate 95 = .ok (.pop, 1) := by decide +kernel
theorem dX4_rotate_96 : decode cX4_rotate 96 = .ok (.return_, 1) := by decide +kernel
end
section
/-! decode rows -/
theorem dX6_init_0 : decode cX6_init 0 = .ok (.aload_n 0, 1) := by decide +kernel
theorem dX6_init_1 : decode cX6_init 1 = .ok (.invokespecial 1, 3) := by decide +kernel
theorem dX6_init_4 : decode cX6_init 4 = .ok (.aload_n 0, 1) := by decide +kernel
theorem dX6_init_5 : decode cX6_init 5 = .ok (.new 7, 3) := by decide +kernel
theorem dX6_init_8 : decode cX6_init 8 = .ok (.dup, 1) := by decide +kernel
theorem dX6_init_9 : decode cX6_init 9 = .ok (.invokespecial 9, 3) := by decide +kernel
theorem dX6_init_12 : decode cX6_init 12 = .ok (.putfield 10, 3) := by decide +kernel
theorem dX6_init_15 : decode cX6_init 15 = .ok (.aload_n 0, 1) := by decide +kernel
theorem dX6_init_16 : decode cX6_init 16 = .ok (.new 7, 3) := by decide +kernel
theorem dX6_init_19 : decode cX6_init 19 = .ok (.dup, 1) := by decide +kernel
theorem dX6_init_20 : decode cX6_init 20 = .ok (.invokespecial 9, 3) := by decide +kernel
theorem dX6_init_23 : decode cX6_init 23 = .ok (.putfield 16, 3) := by decide +kernel
theorem dX6_init_26 : decode cX6_init 26 = .ok (.aload_n 0, 1) := by decide +kernel
theorem dX6_init_27 : decode cX6_init 27 = .ok (.iconst 4, 1) := by decide +kernel
theorem dX6_init_28 : decode cX6_init 28 = .ok (.anewarray 7, 3) := by decide +kernel
theorem dX6_init_31 : decode cX6_init 31 = .ok (.putfield 19, 3) := by decide +kernel
theorem dX6_init_34 : decode cX6_init 34 = .ok (.aload_n 0, 1) := by decide +kernel
theorem dX6_init_35 : decode cX6_init 35 = .ok (.new 23, 3) := by decide +kernel
theorem dX6_init_38 : decode cX6_init 38 = .ok (.dup, 1) := by decide +kernel
theorem dX6_init_39 : decode cX6_init 39 = .ok (.invokespecial 25, 3) := by decide +kernel
theorem dX6_init_42 : decode cX6_init 42 = .ok (.putfield 26, 3) := by decide +kernel
theorem dX6_init_45 : decode cX6_init 45 = .ok (.iconst 0, 1) := by decide +kernel
theorem dX6_init_46 : decode cX6_init 46 = .ok (.istore_n 1, 1) := by decide +kernel
theorem dX6_init_47 : decode cX6_init 47 = .ok (.iload_n 1, 1) := by decide +kernel
theorem dX6_init_48 : decode cX6_init 48 = .ok (.iconst 4, 1) := by decide +kernel
theorem dX6_init_49 : decode cX6_init 49 = .ok (.if_icmp .ge 22, 3) := by decide +kernel
theorem dX6_init_52 : decode cX6_init 52 = .ok (.aload_n 0, 1) := by decide +kernel
theorem dX6_init_53 : decode cX6_init 53 = .ok (.getfield 19, 3) := by decide +kernel
theorem dX6_init_56 : decode cX6_init 56 = .ok (.iload_n 1, 1) := by decide +kernel
theorem dX6_init_57 : decode cX6_init 57 = .ok (.new 7, 3) := by decide +kernel
theorem dX6_init_60 : decode cX6_init 60 = .ok (.dup, 1) := by decide +kernel
theorem dX6_init_61 : decode cX6_init 61 = .ok (.invokespecial 9, 3) := by decide +kernel
theorem dX6_init_64 : decode cX6_init 64 = .ok (.aastore, 1) := by decide +kernel
theorem dX6_init_65 : decode cX6_init 65 = .ok (.iinc 1 1, 3) := by decide +kernel
theorem dX6_init_68 : decode cX6_init 68 = .ok (.goto (-21), 3) := by decide +kernel
theorem dX6_init_71 : decode cX6_init 71 = .ok (.return_, 1) := by decide +kernel
theorem dX6_set_0 : decode cX6_set 0 = .ok (.iload_n 1, 1) := by decide +kernel
theorem dX6_set_1 : decode cX6_set 1 = .ok (.iconst 0, 1) := by decide +kernel
theorem dX6_set_2 : decode cX6_set 2 = .ok (.bipush 18, 2) := by decide +kernel
theorem dX6_set_4 : decode cX6_set 4 = .ok (.invokestatic 30, 3) := by decide +kernel
theorem dX6_set_7 : decode cX6_set 7 = .ok (.ifCond .eq 20, 3) := by decide +kernel
theorem dX6_set_10 : decode cX6_set 10 = .ok (.iload_n 2, 1) := by decide +kernel
theorem dX6_set_11 : decode cX6_set 11 = .ok (.getstatic 34, 3) := by decide +kernel
theorem dX6_set_14 : decode cX6_set 14 = .ok (.iload_n 1, 1) := by decide +kernel
theorem dX6_set_15 : decode cX6_set 15 = .ok (.iaload, 1) := by decide +kernel
theorem dX6_set_16 : decode cX6_set 16 = .ok (.getstatic 38, 3) := by decide +kernel
theorem dX6_set_19 : decode cX6_set 19 = .ok (.iload_n 1, 1) := by decide +kernel
theorem dX6_set_20 : decode cX6_set 20 = .ok (.iaload, 1) := by decide +kernel
theorem dX6_set_21 : decode cX6_set 21 = .ok (.invokestatic 30, 3) := by decide +kernel
theorem dX6_set_24 : decode cX6_set 24 = .ok (.ifCond .ne 6, 3) := by decide +kernel
theorem dX6_set_27 : decode cX6_set 27 = .ok (.ldc 41, 2) := by decide +kernel
theorem dX6_set_29 : decode cX6_set 29 = .ok (.ireturn, 1) := by decide +kernel
theorem dX6_set_30 : decode cX6_set 30 = .ok (.aload_n 0, 1) := by decide +kernel
theorem dX6_set_31 : decode cX6_set 31 = .ok (.invokevirtual 42, 3) := by decide +kernel
theorem dX6_set_34 : decode cX6_set 34 = .ok (.aload_n 0, 1) := by decide +kernel
theorem dX6_set_35 : decode cX6_set 35 = .ok (.getfield 10, 3) := by decide +kernel
theorem dX6_set_38 : decode cX6_set 38 = .ok (.getfield 45, 3) := by decide +kernel
theorem dX6_set_41 : decode cX6_set 41 = .ok (.iload_n 1, 1) := by decide +kernel
theorem dX6_set_42 : decode cX6_set 42 = .ok (.iaload, 1) := by decide +kernel
theorem dX6_set_43 : decode cX6_set 43 = .ok (.istore_n 3, 1) := by decide +kernel
theorem dX6_set_44 : decode cX6_set 44 = .ok (.aload_n 0, 1) := by decide +kernel
theorem dX6_set_45 : decode cX6_set 45 = .ok (.getfield 10, 3) := by decide +kernel
theorem dX6_set_48 : decode cX6_set 48 = .ok (.getfield 45, 3) := by decide +kernel
theorem dX6_set_51 : decode cX6_set 51 = .ok (.iload_n 1, 1) := by decide +kernel
theorem dX6_set_52 : decode cX6_set 52 = .ok (.iload_n 2, 1) := by decide +kernel
theorem dX6_set_53 : decode cX6_set 53 = .ok (.iastore, 1) := by decide +kernel
theorem dX6_set_54 : decode cX6_set 54 = .ok (.iload_n 3, 1) := by decide +kernel
theorem dX6_set_55 : decode cX6_set 55 = .ok (.ireturn, 1) := by decide +kernel
theorem dX6_pump_0 : decode cX6_pump 0 = .ok (.iload_n 1, 1) := by decide +kernel
theorem dX6_pump_1 : decode cX6_pump 1 = .ok (.iconst 0, 1) := by decide +kernel
theorem dX6_pump_2 : decode cX6_pump 2 = .ok (.iconst 2, 1) := by decide +kernel
theorem dX6_pump_3 : decode cX6_pump 3 = .ok (.invokestatic 30, 3) := by decide +kernel
theorem dX6_pump_6 : decode cX6_pump 6 = .ok (.ifCond .eq 26, 3) := by decide +kernel
theorem dX6_pump_9 : decode cX6_pump 9 = .ok (.iload_n 2, 1) := by decide +kernel
theorem dX6_pump_10 : decode cX6_pump 10 = .ok (.bipush 100, 2) := by decide +kernel
theorem dX6_pump_12 : decode cX6_pump 12 = .ok (.sipush 2000, 3) := by decide +kernel
theorem dX6_pump_15 : decode cX6_pump 15 = .ok (.invokestatic 30, 3) := by decide +kernel
theorem dX6_pump_18 : decode cX6_pump 18 = .ok (.ifCond .eq 14, 3) := by decide +kernel
theorem dX6_pump_21 : decode cX6_pump 21 = .ok (.iload_n 3, 1) := by decide +kernel
theorem dX6_pump_22 : decode cX6_pump 22 = .ok (.iconst 1, 1) := by decide +kernel
theorem dX6_pump_23 : decode cX6_pump 23 = .ok (.sipush 1000, 3) := by decide +kernel
theorem dX6_pump_26 : decode cX6_pump 26 = .ok (.invokestatic 30, 3) := by decide +kernel
theorem dX6_pump_29 : decode cX6_pump 29 = .ok (.ifCond .ne 6, 3) := by decide +kernel
theorem dX6_pump_32 : decode cX6_pump 32 = .ok (.ldc 41, 2) := by decide +kernel
theorem dX6_pump_34 : decode cX6_pump 34 = .ok (.ireturn, 1) := by decide +kernel
theorem dX6_pump_35 : decode cX6_pump 35 = .ok (.aload_n 0, 1) := by decide +kernel
theorem dX6_pump_36 : decode cX6_pump 36 = .ok (.getfield 10, 3) := by decide +kernel
theorem dX6_pump_39 : decode cX6_pump 39 = .ok (.getfield 50, 3) := by decide +kernel
theorem dX6_pump_42 : decode cX6_pump 42 = .ok (.getfield 54, 3) := by decide +kernel
theorem dX6_pump_45 : decode cX6_pump 45 = .ok (.bipush 6, 2) := by decide +kernel
theorem dX6_pump_47 : decode cX6_pump 47 = .ok (.if_icmp .lt 6, 3) := by decide +kernel
theorem dX6_pump_50 : decode cX6_pump 50 = .ok (.ldc 58, 2) := by decide +kernel
theorem dX6_pump_52 : decode cX6_pump 52 = .ok (.ireturn, 1) := by decide +kernel
theorem dX6_pump_53 : decode cX6_pump 53 = .ok (.aload_n 0, 1) := by decide +kernel
theorem dX6_pump_54 : decode cX6_pump 54 = .ok (.invokevirtual 42, 3) := by decide +kernel
theorem dX6_pump_57 : decode cX6_pump 57 = .ok (.aload_n 0, 1) := by decide +kernel
theorem dX6_pump_58 : decode cX6_pump 58 = .ok (.getfield 10, 3) := by decide +kernel
theorem dX6_pump_61 : decode cX6_pump 61 = .ok (.getfield 50, 3) := by decide +kernel
theorem dX6_pump_64 : decode cX6_pump 64 = .ok (.iload_n 1, 1) := by decide +kernel
theorem dX6_pump_65 : decode cX6_pump 65 = .ok (.iload_n 2, 1) := by decide +kernel
theorem dX6_pump_66 : decode cX6_pump 66 = .ok (.iload_n 3, 1) := by decide +kernel
theorem dX6_pump_67 : decode cX6_pump 67 = .ok (.invokevirtual 59, 3) := by decide +kernel
theorem dX6_pump_70 : decode cX6_pump 70 = .ok (.ireturn, 1) := by decide +kernel
theorem dX6_service_0 : decode cX6_service 0 = .ok (.aload_n 0, 1) := by decide +kernel
theorem dX6_service_1 : decode cX6_service 1 = .ok (.getfield 10, 3) := by decide +kernel
theorem dX6_service_4 : decode cX6_service 4 = .ok (.getfield 50, 3) := by decide +kernel
theorem dX6_service_7 : decode cX6_service 7 = .ok (.iload_n 1, 1) := by decide +kernel
theorem dX6_service_8 : decode cX6_service 8 = .ok (.invokevirtual 63, 3) := by decide +kernel
theorem dX6_service_11 : decode cX6_service 11 = .ok (.ifCond .eq 12, 3) := by decide +kernel
theorem dX6_service_14 : decode cX6_service 14 = .ok (.iload_n 2, 1) := by decide +kernel
theorem dX6_service_15 : decode cX6_service 15 = .ok (.iconst 0, 1) := by decide +kernel
theorem dX6_service_16 : decode cX6_service 16 = .ok (.iconst 1, 1) := by decide +kernel
theorem dX6_service_17 : decode cX6_service 17 = .ok (.invokestatic 30, 3) := by decide +kernel
theorem dX6_service_20 : decode cX6_service 20 = .ok (.ifCond .ne 6, 3) := by decide +kernel
theorem dX6_service_23 : decode cX6_service 23 = .ok (.ldc 41, 2) := by decide +kernel
theorem dX6_service_25 : decode cX6_service 25 = .ok (.ireturn, 1) := by decide +kernel
theorem dX6_service_26 : decode cX6_service 26 = .ok (.iload_n 2, 1) := by decide +kernel
theorem dX6_service_27 : decode cX6_service 27 = .ok (.iconst 1, 1) := by decide +kernel
theorem dX6_service_28 : decode cX6_service 28 = .ok (.if_icmp .ne 7, 3) := by decide +kernel
theorem dX6_service_31 : decode cX6_service 31 = .ok (.iconst 1, 1) := by decide +kernel
theorem dX6_service_32 : decode cX6_service 32 = .ok (.goto 4, 3) := by decide +kernel
theorem dX6_service_35 : decode cX6_service 35 = .ok (.iconst 0, 1) := by decide +kernel
theorem dX6_service_36 : decode cX6_service 36 = .ok (.istore_n 3, 1) := by decide +kernel
theorem dX6_service_37 : decode cX6_service 37 = .ok (.aload_n 0, 1) := by decide +kernel
theorem dX6_service_38 : decode cX6_service 38 = .ok (.getfield 10, 3) := by decide +kernel
theorem dX6_service_41 : decode cX6_service 41 = .ok (.getfield 50, 3) := by decide +kernel
theorem dX6_service_44 : decode cX6_service 44 = .ok (.getfield 67, 3) := by decide +kernel
theorem dX6_service_47 : decode cX6_service 47 = .ok (.iload_n 1, 1) := by decide +kernel
theorem dX6_service_48 : decode cX6_service 48 = .ok (.baload, 1) := by decide +kernel
theorem dX6_service_49 : decode cX6_service 49 = .ok (.iload_n 3, 1) := by decide +kernel
theorem dX6_service_50 : decode cX6_service 50 = .ok (.if_icmp .ne 6, 3) := by decide +kernel
theorem dX6_service_53 : decode cX6_service 53 = .ok (.ldc 71, 2) := by decide +kernel
theorem dX6_service_55 : decode cX6_service 55 = .ok (.ireturn, 1) := by decide +kernel
theorem dX6_service_56 : decode cX6_service 56 = .ok (.aload_n 0, 1) := by decide +kernel
theorem dX6_service_57 : decode cX6_service 57 = .ok (.invokevirtual 42, 3) := by decide +kernel
theorem dX6_service_60 : decode cX6_service 60 = .ok (.aload_n 0, 1) := by decide +kernel
theorem dX6_service_61 : decode cX6_service 61 = .ok (.getfield 10, 3) := by decide +kernel
theorem dX6_service_64 : decode cX6_service 64 = .ok (.iload_n 1, 1) := by decide +kernel
theorem dX6_service_65 : decode cX6_service 65 = .ok (.iload_n 3, 1) := by decide +kernel
theorem dX6_service_66 : decode cX6_service 66 = .ok (.invokevirtual 72, 3) := by decide +kernel
theorem dX6_service_69 : decode cX6_service 69 = .ok (.ifCond .eq 7, 3) := by decide +kernel
theorem dX6_service_72 : decode cX6_service 72 = .ok (.iconst 1, 1) := by decide +kernel
theorem dX6_service_73 : decode cX6_service 73 = .ok (.goto 4, 3) := by decide +kernel
theorem dX6_service_76 : decode cX6_service 76 = .ok (.iconst 0, 1) := by decide +kernel
theorem dX6_service_77 : decode cX6_service 77 = .ok (.ireturn, 1) := by decide +kernel
theorem dX6_pumpOf_0 : decode cX6_pumpOf 0 = .ok (.aload_n 0, 1) := by decide +kernel
theorem dX6_pumpOf_1 : decode cX6_pumpOf 1 = .ok (.getfield 10, 3) := by decide +kernel
theorem dX6_pumpOf_4 : decode cX6_pumpOf 4 = .ok (.getfield 50, 3) := by decide +kernel
theorem dX6_pumpOf_7 : decode cX6_pumpOf 7 = .ok (.astore_n 3, 1) := by decide +kernel
theorem dX6_pumpOf_8 : decode cX6_pumpOf 8 = .ok (.aload_n 3, 1) := by decide +kernel
theorem dX6_pumpOf_9 : decode cX6_pumpOf 9 = .ok (.iload_n 1, 1) := by decide +kernel
theorem dX6_pumpOf_10 : decode cX6_pumpOf 10 = .ok (.invokevirtual 63, 3) := by decide +kernel
theorem dX6_pumpOf_13 : decode cX6_pumpOf 13 = .ok (.ifCond .ne 6, 3) := by decide +kernel
theorem dX6_pumpOf_16 : decode cX6_pumpOf 16 = .ok (.ldc 41, 2) := by decide +kernel
theorem dX6_pumpOf_18 : decode cX6_pumpOf 18 = .ok (.ireturn, 1) := by decide +kernel
theorem dX6_pumpOf_19 : decode cX6_pumpOf 19 = .ok (.iload_n 2, 1) := by decide +kernel
theorem dX6_pumpOf_20 : decode cX6_pumpOf 20 = .ok (.tableswitch 153 0 9 #[56, 63, 70, 77, 92, 99, 113, 120, 127, 134], 56) := by decide +kernel
theorem dX6_pumpOf_76 : decode cX6_pumpOf 76 = .ok (.aload_n 3, 1) := by decide +kernel
theorem dX6_pumpOf_77 : decode cX6_pumpOf 77 = .ok (.getfield 76, 3) := by decide +kernel
theorem dX6_pumpOf_80 : decode cX6_pumpOf 80 = .ok (.iload_n 1, 1) := by decide +kernel
theorem dX6_pumpOf_81 : decode cX6_pumpOf 81 = .ok (.iaload, 1) := by decide +kernel
theorem dX6_pumpOf_82 : decode cX6_pumpOf 82 = .ok (.ireturn, 1) := by decide +kernel
theorem dX6_pumpOf_83 : decode cX6_pumpOf 83 = .ok (.aload_n 3, 1) := by decide +kernel
theorem dX6_pumpOf_84 : decode cX6_pumpOf 84 = .ok (.getfield 79, 3) := by decide +kernel
theorem dX6_pumpOf_87 : decode cX6_pumpOf 87 = .ok (.iload_n 1, 1) := by decide +kernel
theorem dX6_pumpOf_88 : decode cX6_pumpOf 88 = .ok (.iaload, 1) := by decide +kernel
theorem dX6_pumpOf_89 : decode cX6_pumpOf 89 = .ok (.ireturn, 1) := by decide +kernel
theorem dX6_pumpOf_90 : decode cX6_pumpOf 90 = .ok (.aload_n 3, 1) := by decide +kernel
theorem dX6_pumpOf_91 : decode cX6_pumpOf 91 = .ok (.getfield 82, 3) := by decide +kernel
theorem dX6_pumpOf_94 : decode cX6_pumpOf 94 = .ok (.iload_n 1, 1) := by decide +kernel
theorem dX6_pumpOf_95 : decode cX6_pumpOf 95 = .ok (.iaload, 1) := by decide +kernel
theorem dX6_pumpOf_96 : decode cX6_pumpOf 96 = .ok (.ireturn, 1) := by decide +kernel
theorem dX6_pumpOf_97 : decode cX6_pumpOf 97 = .ok (.aload_n 3, 1) := by decide +kernel
theorem dX6_pumpOf_98 : decode cX6_pumpOf 98 = .ok (.getfield 67, 3) := by decide +kernel
theorem dX6_pumpOf_101 : decode cX6_pumpOf 101 = .ok (.iload_n 1, 1) := by decide +kernel
theorem dX6_pumpOf_102 : decode cX6_pumpOf 102 = .ok (.baload, 1) := by decide +kernel
theorem dX6_pumpOf_103 : decode cX6_pumpOf 103 = .ok (.ifCond .eq 7, 3) := by decide +kernel
theorem dX6_pumpOf_106 : decode cX6_pumpOf 106 = .ok (.iconst 1, 1) := by decide +kernel
theorem dX6_pumpOf_107 : decode cX6_pumpOf 107 = .ok (.goto 4, 3) := by decide +kernel
theorem dX6_pumpOf_110 : decode cX6_pumpOf 110 = .ok (.iconst 0, 1) := by decide +kernel
theorem dX6_pumpOf_111 : decode cX6_pumpOf 111 = .ok (.ireturn, 1) := by decide +kernel
theorem dX6_pumpOf_112 : decode cX6_pumpOf 112 = .ok (.aload_n 3, 1) := by decide +kernel
theorem dX6_pumpOf_113 : decode cX6_pumpOf 113 = .ok (.getfield 85, 3) := by decide +kernel
theorem dX6_pumpOf_116 : decode cX6_pumpOf 116 = .ok (.iload_n 1, 1) := by decide +kernel
theorem dX6_pumpOf_117 : decode cX6_pumpOf 117 = .ok (.iaload, 1) := by decide +kernel
theorem dX6_pumpOf_118 : decode cX6_pumpOf 118 = .ok (.ireturn, 1) := by decide +kernel
theorem dX6_pumpOf_119 : decode cX6_pumpOf 119 = .ok (.aload_n 3, 1) := by decide +kernel
theorem dX6_pumpOf_120 : decode cX6_pumpOf 120 = .ok (.getfield 88, 3) := by decide +kernel
theorem dX6_pumpOf_123 : decode cX6_pumpOf 123 = .ok (.iload_n 1, 1) := by decide +kernel
theorem dX6_pumpOf_124 : decode cX6_pumpOf 124 = .ok (.if_icmp .ne 7, 3) := by decide +kernel
theorem dX6_pumpOf_127 : decode cX6_pumpOf 127 = .ok (.iconst 1, 1) := by decide +kernel
theorem dX6_pumpOf_128 : decode cX6_pumpOf 128 = .ok (.goto 4, 3) := by decide +kernel
theorem dX6_pumpOf_131 : decode cX6_pumpOf 131 = .ok (.iconst 0, 1) := by decide +kernel
theorem dX6_pumpOf_132 : decode cX6_pumpOf 132 = .ok (.ireturn, 1) := by decide +kernel
theorem dX6_pumpOf_133 : decode cX6_pumpOf 133 = .ok (.aload_n 3, 1) := by decide +kernel
theorem dX6_pumpOf_134 : decode cX6_pumpOf 134 = .ok (.getfield 91, 3) := by decide +kernel
theorem dX6_pumpOf_137 : decode cX6_pumpOf 137 = .ok (.iload_n 1, 1) := by decide +kernel
theorem dX6_pumpOf_138 : decode cX6_pumpOf 138 = .ok (.iaload, 1) := by decide +kernel
theorem dX6_pumpOf_139 : decode cX6_pumpOf 139 = .ok (.ireturn, 1) := by decide +kernel
theorem dX6_pumpOf_140 : decode cX6_pumpOf 140 = .ok (.aload_n 3, 1) := by decide +kernel
theorem dX6_pumpOf_141 : decode cX6_pumpOf 141 = .ok (.getfield 94, 3) := by decide +kernel
theorem dX6_pumpOf_144 : decode cX6_pumpOf 144 = .ok (.iload_n 1, 1) := by decide +kernel
theorem dX6_pumpOf_145 : decode cX6_pumpOf 145 = .ok (.iaload, 1) := by decide +kernel
theorem dX6_pumpOf_146 : decode cX6_pumpOf 146 = .ok (.ireturn, 1) := by decide +kernel
theorem dX6_pumpOf_147 : decode cX6_pumpOf 147 = .ok (.aload_n 3, 1) := by decide +kernel
theorem dX6_pumpOf_148 : decode cX6_pumpOf 148 = .ok (.getfield 97, 3) := by decide +kernel
theorem dX6_pumpOf_151 : decode cX6_pumpOf 151 = .ok (.iload_n 1, 1) := by decide +kernel
theorem dX6_pumpOf_152 : decode cX6_pumpOf 152 = .ok (.iaload, 1) := by decide +kernel
theorem dX6_pumpOf_153 : decode cX6_pumpOf 153 = .ok (.ireturn, 1) := by decide +kernel
theorem dX6_pumpOf_154 : decode cX6_pumpOf 154 = .ok (.aload_n 3, 1) := by decide +kernel
theorem dX6_pumpOf_155 : decode cX6_pumpOf 155 = .ok (.iload_n 1, 1) := by decide +kernel
theorem dX6_pumpOf_156 : decode cX6_pumpOf 156 = .ok (.aload_n 3, 1) := by decide +kernel
theorem dX6_pumpOf_157 : decode cX6_pumpOf 157 = .ok (.getfield 85, 3) := by decide +kernel
theorem dX6_pumpOf_160 : decode cX6_pumpOf 160 = .ok (.iload_n 1, 1) := by decide +kernel
theorem dX6_pumpOf_161 : decode cX6_pumpOf 161 = .ok (.iaload, 1) := by decide +kernel
theorem dX6_pumpOf_162 : decode cX6_pumpOf 162 = .ok (.aload_n 0, 1) := by decide +kernel
theorem dX6_pumpOf_163 : decode cX6_pumpOf 163 = .ok (.getfield 10, 3) := by decide +kernel
theorem dX6_pumpOf_166 : decode cX6_pumpOf 166 = .ok (.getfield 100, 3) := by decide +kernel
theorem dX6_pumpOf_169 : decode cX6_pumpOf 169 = .ok (.invokevirtual 103, 3) := by decide +kernel
theorem dX6_pumpOf_172 : decode cX6_pumpOf 172 = .ok (.ireturn, 1) := by decide +kernel
theorem dX6_pumpOf_173 : decode cX6_pumpOf 173 = .ok (.ldc 41, 2) := by decide +kernel
theorem dX6_pumpOf_175 : decode cX6_pumpOf 175 = .ok (.ireturn, 1) := by decide +kernel
theorem dX6_readyAt_0 : decode cX6_readyAt 0 = .ok (.iload_n 1, 1) := by decide +kernel
theorem dX6_readyAt_1 : decode cX6_readyAt 1 = .ok (.ifCond .ge 6, 3) := by decide +kernel
theorem dX6_readyAt_4 : decode cX6_readyAt 4 = .ok (.ldc 41, 2) := by decide +kernel
theorem dX6_readyAt_6 : decode cX6_readyAt 6 = .ok (.ireturn, 1) := by decide +kernel
theorem dX6_readyAt_7 : decode cX6_readyAt 7 = .ok (.aload_n 0, 1) := by decide +kernel
theorem dX6_readyAt_8 : decode cX6_readyAt 8 = .ok (.getfield 10, 3) := by decide +kernel
theorem dX6_readyAt_11 : decode cX6_readyAt 11 = .ok (.getfield 50, 3) := by decide +kernel
theorem dX6_readyAt_14 : decode cX6_readyAt 14 = .ok (.iload_n 1, 1) := by decide +kernel
theorem dX6_readyAt_15 : decode cX6_readyAt 15 = .ok (.invokevirtual 106, 3) := by decide +kernel
theorem dX6_readyAt_18 : decode cX6_readyAt 18 = .ok (.istore_n 2, 1) := by decide +kernel
theorem dX6_readyAt_19 : decode cX6_readyAt 19 = .ok (.iload_n 2, 1) := by decide +kernel
theorem dX6_readyAt_20 : decode cX6_readyAt 20 = .ok (.iconst (-1), 1) := by decide +kernel
theorem dX6_readyAt_21 : decode cX6_readyAt 21 = .ok (.if_icmp .ne 8, 3) := by decide +kernel
theorem dX6_readyAt_24 : decode cX6_readyAt 24 = .ok (.ldc 110, 2) := by decide +kernel
theorem dX6_readyAt_26 : decode cX6_readyAt 26 = .ok (.goto 4, 3) := by decide +kernel
theorem dX6_readyAt_29 : decode cX6_readyAt 29 = .ok (.iload_n 2, 1) := by decide +kernel
theorem dX6_readyAt_30 : decode cX6_readyAt 30 = .ok (.ireturn, 1) := by decide +kernel
theorem dX6_balance_0 : decode cX6_balance 0 = .ok (.aload_n 0, 1) := by decide +kernel
theorem dX6_balance_1 : decode cX6_balance 1 = .ok (.getfield 10, 3) := by decide +kernel
theorem dX6_balance_4 : decode cX6_balance 4 = .ok (.getfield 50, 3) := by decide +kernel
theorem dX6_balance_7 : decode cX6_balance 7 = .ok (.getfield 54, 3) := by decide +kernel
theorem dX6_balance_10 : decode cX6_balance 10 = .ok (.ifCond .ne 8, 3) := by decide +kernel
theorem dX6_balance_13 : decode cX6_balance 13 = .ok (.ldc 110, 2) := by decide +kernel
theorem dX6_balance_15 : decode cX6_balance 15 = .ok (.goto 13, 3) := by decide +kernel
theorem dX6_balance_18 : decode cX6_balance 18 = .ok (.aload_n 0, 1) := by decide +kernel
theorem dX6_balance_19 : decode cX6_balance 19 = .ok (.getfield 10, 3) := by decide +kernel
theorem dX6_balance_22 : decode cX6_balance 22 = .ok (.getfield 50, 3) := by decide +kernel
theorem dX6_balance_25 : decode cX6_balance 25 = .ok (.invokevirtual 111, 3) := by decide +kernel
theorem dX6_balance_28 : decode cX6_balance 28 = .ok (.ireturn, 1) := by decide +kernel
theorem dX6_zone_0 : decode cX6_zone 0 = .ok (.iload_n 1, 1) := by decide +kernel
theorem dX6_zone_1 : decode cX6_zone 1 = .ok (.iconst 1, 1) := by decide +kernel
theorem dX6_zone_2 : decode cX6_zone 2 = .ok (.sipush 1000, 3) := by decide +kernel
theorem dX6_zone_5 : decode cX6_zone 5 = .ok (.invokestatic 30, 3) := by decide +kernel
theorem dX6_zone_8 : decode cX6_zone 8 = .ok (.ifCond .ne 6, 3) := by decide +kernel
theorem dX6_zone_11 : decode cX6_zone 11 = .ok (.ldc 41, 2) := by decide +kernel
theorem dX6_zone_13 : decode cX6_zone 13 = .ok (.ireturn, 1) := by decide +kernel
theorem dX6_zone_14 : decode cX6_zone 14 = .ok (.aload_n 0, 1) := by decide +kernel
theorem dX6_zone_15 : decode cX6_zone 15 = .ok (.getfield 10, 3) := by decide +kernel
theorem dX6_zone_18 : decode cX6_zone 18 = .ok (.getfield 115, 3) := by decide +kernel
theorem dX6_zone_21 : decode cX6_zone 21 = .ok (.getfield 119, 3) := by decide +kernel
theorem dX6_zone_24 : decode cX6_zone 24 = .ok (.bipush 8, 2) := by decide +kernel
theorem dX6_zone_26 : decode cX6_zone 26 = .ok (.if_icmp .lt 6, 3) := by decide +kernel
theorem dX6_zone_29 : decode cX6_zone 29 = .ok (.ldc 58, 2) := by decide +kernel
theorem dX6_zone_31 : decode cX6_zone 31 = .ok (.ireturn, 1) := by decide +kernel
theorem dX6_zone_32 : decode cX6_zone 32 = .ok (.aload_n 0, 1) := by decide +kernel
theorem dX6_zone_33 : decode cX6_zone 33 = .ok (.invokevirtual 42, 3) := by decide +kernel
theorem dX6_zone_36 : decode cX6_zone 36 = .ok (.aload_n 0, 1) := by decide +kernel
theorem dX6_zone_37 : decode cX6_zone 37 = .ok (.getfield 10, 3) := by decide +kernel
theorem dX6_zone_40 : decode cX6_zone 40 = .ok (.getfield 115, 3) := by decide +kernel
theorem dX6_zone_43 : decode cX6_zone 43 = .ok (.iload_n 1, 1) := by decide +kernel
theorem dX6_zone_44 : decode cX6_zone 44 = .ok (.invokevirtual 122, 3) := by decide +kernel
theorem dX6_zone_47 : decode cX6_zone 47 = .ok (.ireturn, 1) := by decide +kernel
theorem dX6_open_0 : decode cX6_open 0 = .ok (.aload_n 0, 1) := by decide +kernel
theorem dX6_open_1 : decode cX6_open 1 = .ok (.getfield 10, 3) := by decide +kernel
theorem dX6_open_4 : decode cX6_open 4 = .ok (.getfield 115, 3) := by decide +kernel
theorem dX6_open_7 : decode cX6_open 7 = .ok (.iload_n 1, 1) := by decide +kernel
theorem dX6_open_8 : decode cX6_open 8 = .ok (.invokevirtual 124, 3) := by decide +kernel
theorem dX6_open_11 : decode cX6_open 11 = .ok (.ifCond .eq 12, 3) := by decide +kernel
theorem dX6_open_14 : decode cX6_open 14 = .ok (.iload_n 2, 1) := by decide +kernel
theorem dX6_open_15 : decode cX6_open 15 = .ok (.iconst 0, 1) := by decide +kernel
theorem dX6_open_16 : decode cX6_open 16 = .ok (.iconst 1, 1) := by decide +kernel
theorem dX6_open_17 : decode cX6_open 17 = .ok (.invokestatic 30, 3) := by decide +kernel
theorem dX6_open_20 : decode cX6_open 20 = .ok (.ifCond .ne 6, 3) := by decide +kernel
theorem dX6_open_23 : decode cX6_open 23 = .ok (.ldc 41, 2) := by decide +kernel
theorem dX6_open_25 : decode cX6_open 25 = .ok (.ireturn, 1) := by decide +kernel
theorem dX6_open_26 : decode cX6_open 26 = .ok (.iload_n 2, 1) := by decide +kernel
theorem dX6_open_27 : decode cX6_open 27 = .ok (.iconst 1, 1) := by decide +kernel
theorem dX6_open_28 : decode cX6_open 28 = .ok (.if_icmp .ne 7, 3) := by decide +kernel
theorem dX6_open_31 : decode cX6_open 31 = .ok (.iconst 1, 1) := by decide +kernel
theorem dX6_open_32 : decode cX6_open 32 = .ok (.goto 4, 3) := by decide +kernel
theorem dX6_open_35 : decode cX6_open 35 = .ok (.iconst 0, 1) := by decide +kernel
theorem dX6_open_36 : decode cX6_open 36 = .ok (.istore_n 3, 1) := by decide +kernel
theorem dX6_open_37 : decode cX6_open 37 = .ok (.aload_n 0, 1) := by decide +kernel
theorem dX6_open_38 : decode cX6_open 38 = .ok (.getfield 10, 3) := by decide +kernel
theorem dX6_open_41 : decode cX6_open 41 = .ok (.getfield 115, 3) := by decide +kernel
theorem dX6_open_44 : decode cX6_open 44 = .ok (.getfield 125, 3) := by decide +kernel
theorem dX6_open_47 : decode cX6_open 47 = .ok (.iload_n 1, 1) := by decide +kernel
theorem dX6_open_48 : decode cX6_open 48 = .ok (.baload, 1) := by decide +kernel
theorem dX6_open_49 : decode cX6_open 49 = .ok (.iload_n 3, 1) := by decide +kernel
theorem dX6_open_50 : decode cX6_open 50 = .ok (.if_icmp .ne 6, 3) := by decide +kernel
theorem dX6_open_53 : decode cX6_open 53 = .ok (.ldc 71, 2) := by decide +kernel
theorem dX6_open_55 : decode cX6_open 55 = .ok (.ireturn, 1) := by decide +kernel
theorem dX6_open_56 : decode cX6_open 56 = .ok (.aload_n 0, 1) := by decide +kernel
theorem dX6_open_57 : decode cX6_open 57 = .ok (.invokevirtual 42, 3) := by decide +kernel
theorem dX6_open_60 : decode cX6_open 60 = .ok (.aload_n 0, 1) := by decide +kernel
theorem dX6_open_61 : decode cX6_open 61 = .ok (.getfield 10, 3) := by decide +kernel
theorem dX6_open_64 : decode cX6_open 64 = .ok (.getfield 115, 3) := by decide +kernel
theorem dX6_open_67 : decode cX6_open 67 = .ok (.getfield 125, 3) := by decide +kernel
theorem dX6_open_70 : decode cX6_open 70 = .ok (.iload_n 1, 1) := by decide +kernel
theorem dX6_open_71 : decode cX6_open 71 = .ok (.iload_n 3, 1) := by decide +kernel
theorem dX6_open_72 : decode cX6_open 72 = .ok (.bastore, 1) := by decide +kernel
theorem dX6_open_73 : decode cX6_open 73 = .ok (.aload_n 0, 1) := by decide +kernel
theorem dX6_open_74 : decode cX6_open 74 = .ok (.getfield 10, 3) := by decide +kernel
theorem dX6_open_77 : decode cX6_open 77 = .ok (.getfield 115, 3) := by decide +kernel
theorem dX6_open_80 : decode cX6_open 80 = .ok (.invokevirtual 128, 3) := by decide +kernel
theorem dX6_open_83 : decode cX6_open 83 = .ok (.ireturn, 1) := by decide +kernel
theorem dX6_leak_0 : decode cX6_leak 0 = .ok (.iload_n 1, 1) := by decide +kernel
theorem dX6_leak_1 : decode cX6_leak 1 = .ok (.iconst 0, 1) := by decide +kernel
theorem dX6_leak_2 : decode cX6_leak 2 = .ok (.sipush 1000, 3) := by decide +kernel
theorem dX6_leak_5 : decode cX6_leak 5 = .ok (.invokestatic 30, 3) := by decide +kernel
theorem dX6_leak_8 : decode cX6_leak 8 = .ok (.ifCond .ne 6, 3) := by decide +kernel
theorem dX6_leak_11 : decode cX6_leak 11 = .ok (.ldc 41, 2) := by decide +kernel
theorem dX6_leak_13 : decode cX6_leak 13 = .ok (.ireturn, 1) := by decide +kernel
theorem dX6_leak_14 : decode cX6_leak 14 = .ok (.aload_n 0, 1) := by decide +kernel
theorem dX6_leak_15 : decode cX6_leak 15 = .ok (.invokevirtual 42, 3) := by decide +kernel
theorem dX6_leak_18 : decode cX6_leak 18 = .ok (.aload_n 0, 1) := by decide +kernel
theorem dX6_leak_19 : decode cX6_leak 19 = .ok (.getfield 10, 3) := by decide +kernel
theorem dX6_leak_22 : decode cX6_leak 22 = .ok (.getfield 131, 3) := by decide +kernel
theorem dX6_leak_25 : decode cX6_leak 25 = .ok (.istore_n 2, 1) := by decide +kernel
theorem dX6_leak_26 : decode cX6_leak 26 = .ok (.aload_n 0, 1) := by decide +kernel
theorem dX6_leak_27 : decode cX6_leak 27 = .ok (.getfield 10, 3) := by decide +kernel
theorem dX6_leak_30 : decode cX6_leak 30 = .ok (.iload_n 1, 1) := by decide +kernel
theorem dX6_leak_31 : decode cX6_leak 31 = .ok (.putfield 131, 3) := by decide +kernel
theorem dX6_leak_34 : decode cX6_leak 34 = .ok (.iload_n 2, 1) := by decide +kernel
theorem dX6_leak_35 : decode cX6_leak 35 = .ok (.ireturn, 1) := by decide +kernel
theorem dX6_programme_0 : decode cX6_programme 0 = .ok (.aload_n 0, 1) := by decide +kernel
theorem dX6_programme_1 : decode cX6_programme 1 = .ok (.getfield 10, 3) := by decide +kernel
theorem dX6_programme_4 : decode cX6_programme 4 = .ok (.getfield 115, 3) := by decide +kernel
theorem dX6_programme_7 : decode cX6_programme 7 = .ok (.iload_n 1, 1) := by decide +kernel
theorem dX6_programme_8 : decode cX6_programme 8 = .ok (.invokevirtual 124, 3) := by decide +kernel
theorem dX6_programme_11 : decode cX6_programme 11 = .ok (.ifCond .eq 30, 3) := by decide +kernel
theorem dX6_programme_14 : decode cX6_programme 14 = .ok (.iload_n 2, 1) := by decide +kernel
theorem dX6_programme_15 : decode cX6_programme 15 = .ok (.iconst 0, 1) := by decide +kernel
theorem dX6_programme_16 : decode cX6_programme 16 = .ok (.sipush 1439, 3) := by decide +kernel
theorem dX6_programme_19 : decode cX6_programme 19 = .ok (.invokestatic 30, 3) := by decide +kernel
theorem dX6_programme_22 : decode cX6_programme 22 = .ok (.ifCond .eq 19, 3) := by decide +kernel
theorem dX6_programme_25 : decode cX6_programme 25 = .ok (.iload_n 3, 1) := by decide +kernel
theorem dX6_programme_26 : decode cX6_programme 26 = .ok (.iconst 0, 1) := by decide +kernel
theorem dX6_programme_27 : decode cX6_programme 27 = .ok (.sipush 1439, 3) := by decide +kernel
theorem dX6_programme_30 : decode cX6_programme 30 = .ok (.invokestatic 30, 3) := by decide +kernel
theorem dX6_programme_33 : decode cX6_programme 33 = .ok (.ifCond .eq 8, 3) := by decide +kernel
theorem dX6_programme_36 : decode cX6_programme 36 = .ok (.iload_n 2, 1) := by decide +kernel
theorem dX6_programme_37 : decode cX6_programme 37 = .ok (.iload_n 3, 1) := by decide +kernel
theorem dX6_programme_38 : decode cX6_programme 38 = .ok (.if_icmp .ne 6, 3) := by decide +kernel
theorem dX6_programme_41 : decode cX6_programme 41 = .ok (.ldc 41, 2) := by decide +kernel
theorem dX6_programme_43 : decode cX6_programme 43 = .ok (.ireturn, 1) := by decide +kernel
theorem dX6_programme_44 : decode cX6_programme 44 = .ok (.aload_n 0, 1) := by decide +kernel
theorem dX6_programme_45 : decode cX6_programme 45 = .ok (.getfield 10, 3) := by decide +kernel
theorem dX6_programme_48 : decode cX6_programme 48 = .ok (.getfield 115, 3) := by decide +kernel
theorem dX6_programme_51 : decode cX6_programme 51 = .ok (.getfield 134, 3) := by decide +kernel
theorem dX6_programme_54 : decode cX6_programme 54 = .ok (.bipush 8, 2) := by decide +kernel
theorem dX6_programme_56 : decode cX6_programme 56 = .ok (.if_icmp .lt 6, 3) := by decide +kernel
theorem dX6_programme_59 : decode cX6_programme 59 = .ok (.ldc 58, 2) := by decide +kernel
theorem dX6_programme_61 : decode cX6_programme 61 = .ok (.ireturn, 1) := by decide +kernel
theorem dX6_programme_62 : decode cX6_programme 62 = .ok (.aload_n 0, 1) := by decide +kernel
theorem dX6_programme_63 : decode cX6_programme 63 = .ok (.invokevirtual 42, 3) := by decide +kernel
theorem dX6_programme_66 : decode cX6_programme 66 = .ok (.aload_n 0, 1) := by decide +kernel
theorem dX6_programme_67 : decode cX6_programme 67 = .ok (.getfield 10, 3) := by decide +kernel
theorem dX6_programme_70 : decode cX6_programme 70 = .ok (.getfield 115, 3) := by decide +kernel
theorem dX6_programme_73 : decode cX6_programme 73 = .ok (.iload_n 1, 1) := by decide +kernel
theorem dX6_programme_74 : decode cX6_programme 74 = .ok (.iload_n 2, 1) := by decide +kernel
theorem dX6_programme_75 : decode cX6_programme 75 = .ok (.iload_n 3, 1) := by decide +kernel
theorem dX6_programme_76 : decode cX6_programme 76 = .ok (.invokevirtual 137, 3) := by decide +kernel
theorem dX6_programme_79 : decode cX6_programme 79 = .ok (.ireturn, 1) := by decide +kernel
theorem dX6_zoneOf_0 : decode cX6_zoneOf 0 = .ok (.aload_n 0, 1) := by decide +kernel
theorem dX6_zoneOf_1 : decode cX6_zoneOf 1 = .ok (.getfield 10, 3) := by decide +kernel
theorem dX6_zoneOf_4 : decode cX6_zoneOf 4 = .ok (.getfield 115, 3) := by decide +kernel
theorem dX6_zoneOf_7 : decode cX6_zoneOf 7 = .ok (.astore_n 3, 1) := by decide +kernel
theorem dX6_zoneOf_8 : decode cX6_zoneOf 8 = .ok (.aload_n 3, 1) := by decide +kernel
theorem dX6_zoneOf_9 : decode cX6_zoneOf 9 = .ok (.iload_n 1, 1) := by decide +kernel
theorem dX6_zoneOf_10 : decode cX6_zoneOf 10 = .ok (.invokevirtual 124, 3) := by decide +kernel
theorem dX6_zoneOf_13 : decode cX6_zoneOf 13 = .ok (.ifCond .ne 6, 3) := by decide +kernel
theorem dX6_zoneOf_16 : decode cX6_zoneOf 16 = .ok (.ldc 41, 2) := by decide +kernel
theorem dX6_zoneOf_18 : decode cX6_zoneOf 18 = .ok (.ireturn, 1) := by decide +kernel
theorem dX6_zoneOf_19 : decode cX6_zoneOf 19 = .ok (.iload_n 2, 1) := by decide +kernel
theorem dX6_zoneOf_20 : decode cX6_zoneOf 20 = .ok (.tableswitch 73 0 3 #[32, 39, 54, 67], 32) := by decide +kernel
theorem dX6_zoneOf_52 : decode cX6_zoneOf 52 = .ok (.aload_n 3, 1) := by decide +kernel
theorem dX6_zoneOf_53 : decode cX6_zoneOf 53 = .ok (.getfield 140, 3) := by decide +kernel
theorem dX6_zoneOf_56 : decode cX6_zoneOf 56 = .ok (.iload_n 1, 1) := by decide +kernel
theorem dX6_zoneOf_57 : decode cX6_zoneOf 57 = .ok (.iaload, 1) := by decide +kernel
theorem dX6_zoneOf_58 : decode cX6_zoneOf 58 = .ok (.ireturn, 1) := by decide +kernel
theorem dX6_zoneOf_59 : decode cX6_zoneOf 59 = .ok (.aload_n 3, 1) := by decide +kernel
theorem dX6_zoneOf_60 : decode cX6_zoneOf 60 = .ok (.getfield 125, 3) := by decide +kernel
theorem dX6_zoneOf_63 : decode cX6_zoneOf 63 = .ok (.iload_n 1, 1) := by decide +kernel
theorem dX6_zoneOf_64 : decode cX6_zoneOf 64 = .ok (.baload, 1) := by decide +kernel
theorem dX6_zoneOf_65 : decode cX6_zoneOf 65 = .ok (.ifCond .eq 7, 3) := by decide +kernel
theorem dX6_zoneOf_68 : decode cX6_zoneOf 68 = .ok (.iconst 1, 1) := by decide +kernel
theorem dX6_zoneOf_69 : decode cX6_zoneOf 69 = .ok (.goto 4, 3) := by decide +kernel
theorem dX6_zoneOf_72 : decode cX6_zoneOf 72 = .ok (.iconst 0, 1) := by decide +kernel
theorem dX6_zoneOf_73 : decode cX6_zoneOf 73 = .ok (.ireturn, 1) := by decide +kernel
theorem dX6_zoneOf_74 : decode cX6_zoneOf 74 = .ok (.aload_n 3, 1) := by decide +kernel
theorem dX6_zoneOf_75 : decode cX6_zoneOf 75 = .ok (.iload_n 1, 1) := by decide +kernel
theorem dX6_zoneOf_76 : decode cX6_zoneOf 76 = .ok (.aload_n 0, 1) := by decide +kernel
theorem dX6_zoneOf_77 : decode cX6_zoneOf 77 = .ok (.getfield 10, 3) := by decide +kernel
theorem dX6_zoneOf_80 : decode cX6_zoneOf 80 = .ok (.getfield 100, 3) := by decide +kernel
theorem dX6_zoneOf_83 : decode cX6_zoneOf 83 = .ok (.invokevirtual 143, 3) := by decide +kernel
theorem dX6_zoneOf_86 : decode cX6_zoneOf 86 = .ok (.ireturn, 1) := by decide +kernel
theorem dX6_zoneOf_87 : decode cX6_zoneOf 87 = .ok (.aload_n 3, 1) := by decide +kernel
theorem dX6_zoneOf_88 : decode cX6_zoneOf 88 = .ok (.iload_n 1, 1) := by decide +kernel
theorem dX6_zoneOf_89 : decode cX6_zoneOf 89 = .ok (.invokevirtual 147, 3) := by decide +kernel
theorem dX6_zoneOf_92 : decode cX6_zoneOf 92 = .ok (.ireturn, 1) := by decide +kernel
theorem dX6_zoneOf_93 : decode cX6_zoneOf 93 = .ok (.ldc 41, 2) := by decide +kernel
theorem dX6_zoneOf_95 : decode cX6_zoneOf 95 = .ok (.ireturn, 1) := by decide +kernel
theorem dX6_fill_0 : decode cX6_fill 0 = .ok (.iload_n 1, 1) := by decide +kernel
theorem dX6_fill_1 : decode cX6_fill 1 = .ok (.iconst 0, 1) := by decide +kernel
theorem dX6_fill_2 : decode cX6_fill 2 = .ok (.sipush 20000, 3) := by decide +kernel
theorem dX6_fill_5 : decode cX6_fill 5 = .ok (.invokestatic 30, 3) := by decide +kernel
theorem dX6_fill_8 : decode cX6_fill 8 = .ok (.ifCond .ne 6, 3) := by decide +kernel
theorem dX6_fill_11 : decode cX6_fill 11 = .ok (.ldc 41, 2) := by decide +kernel
theorem dX6_fill_13 : decode cX6_fill 13 = .ok (.ireturn, 1) := by decide +kernel
theorem dX6_fill_14 : decode cX6_fill 14 = .ok (.aload_n 0, 1) := by decide +kernel
theorem dX6_fill_15 : decode cX6_fill 15 = .ok (.invokevirtual 42, 3) := by decide +kernel
theorem dX6_fill_18 : decode cX6_fill 18 = .ok (.aload_n 0, 1) := by decide +kernel
theorem dX6_fill_19 : decode cX6_fill 19 = .ok (.getfield 10, 3) := by decide +kernel
theorem dX6_fill_22 : decode cX6_fill 22 = .ok (.getfield 150, 3) := by decide +kernel
theorem dX6_fill_25 : decode cX6_fill 25 = .ok (.istore_n 2, 1) := by decide +kernel
theorem dX6_fill_26 : decode cX6_fill 26 = .ok (.aload_n 0, 1) := by decide +kernel
theorem dX6_fill_27 : decode cX6_fill 27 = .ok (.getfield 10, 3) := by decide +kernel
theorem dX6_fill_30 : decode cX6_fill 30 = .ok (.iload_n 1, 1) := by decide +kernel
theorem dX6_fill_31 : decode cX6_fill 31 = .ok (.putfield 150, 3) := by decide +kernel
theorem dX6_fill_34 : decode cX6_fill 34 = .ok (.iload_n 2, 1) := by decide +kernel
theorem dX6_fill_35 : decode cX6_fill 35 = .ok (.ireturn, 1) := by decide +kernel
theorem dX6_reset_0 : decode cX6_reset 0 = .ok (.aload_n 0, 1) := by decide +kernel
theorem dX6_reset_1 : decode cX6_reset 1 = .ok (.getfield 10, 3) := by decide +kernel
theorem dX6_reset_4 : decode cX6_reset 4 = .ok (.getfield 153, 3) := by decide +kernel
theorem dX6_reset_7 : decode cX6_reset 7 = .ok (.ifCond .ne 6, 3) := by decide +kernel
theorem dX6_reset_10 : decode cX6_reset 10 = .ok (.ldc 71, 2) := by decide +kernel
theorem dX6_reset_12 : decode cX6_reset 12 = .ok (.ireturn, 1) := by decide +kernel
theorem dX6_reset_13 : decode cX6_reset 13 = .ok (.aload_n 0, 1) := by decide +kernel
theorem dX6_reset_14 : decode cX6_reset 14 = .ok (.invokevirtual 42, 3) := by decide +kernel
theorem dX6_reset_17 : decode cX6_reset 17 = .ok (.aload_n 0, 1) := by decide +kernel
theorem dX6_reset_18 : decode cX6_reset 18 = .ok (.getfield 10, 3) := by decide +kernel
theorem dX6_reset_21 : decode cX6_reset 21 = .ok (.getfield 153, 3) := by decide +kernel
theorem dX6_reset_24 : decode cX6_reset 24 = .ok (.istore_n 1, 1) := by decide +kernel
theorem dX6_reset_25 : decode cX6_reset 25 = .ok (.aload_n 0, 1) := by decide +kernel
theorem dX6_reset_26 : decode cX6_reset 26 = .ok (.getfield 10, 3) := by decide +kernel
theorem dX6_reset_29 : decode cX6_reset 29 = .ok (.invokevirtual 156, 3) := by decide +kernel
theorem dX6_reset_32 : decode cX6_reset 32 = .ok (.iload_n 1, 1) := by decide +kernel
theorem dX6_reset_33 : decode cX6_reset 33 = .ok (.ireturn, 1) := by decide +kernel
theorem dX6_pass_0 : decode cX6_pass 0 = .ok (.iload_n 1, 1) := by decide +kernel
theorem dX6_pass_1 : decode cX6_pass 1 = .ok (.iconst 1, 1) := by decide +kernel
theorem dX6_pass_2 : decode cX6_pass 2 = .ok (.sipush 240, 3) := by decide +kernel
theorem dX6_pass_5 : decode cX6_pass 5 = .ok (.invokestatic 30, 3) := by decide +kernel
theorem dX6_pass_8 : decode cX6_pass 8 = .ok (.ifCond .ne 6, 3) := by decide +kernel
theorem dX6_pass_11 : decode cX6_pass 11 = .ok (.ldc 41, 2) := by decide +kernel
theorem dX6_pass_13 : decode cX6_pass 13 = .ok (.ireturn, 1) := by decide +kernel
theorem dX6_pass_14 : decode cX6_pass 14 = .ok (.aload_n 0, 1) := by decide +kernel
theorem dX6_pass_15 : decode cX6_pass 15 = .ok (.getfield 10, 3) := by decide +kernel
theorem dX6_pass_18 : decode cX6_pass 18 = .ok (.getfield 159, 3) := by decide +kernel
theorem dX6_pass_21 : decode cX6_pass 21 = .ok (.iload_n 1, 1) := by decide +kernel
theorem dX6_pass_22 : decode cX6_pass 22 = .ok (.iadd, 1) := by decide +kernel
theorem dX6_pass_23 : decode cX6_pass 23 = .ok (.sipush 20000, 3) := by decide +kernel
theorem dX6_pass_26 : decode cX6_pass 26 = .ok (.if_icmp .le 6, 3) := by decide +kernel
theorem dX6_pass_29 : decode cX6_pass 29 = .ok (.ldc 58, 2) := by decide +kernel
theorem dX6_pass_31 : decode cX6_pass 31 = .ok (.ireturn, 1) := by decide +kernel
theorem dX6_pass_32 : decode cX6_pass 32 = .ok (.aload_n 0, 1) := by decide +kernel
theorem dX6_pass_33 : decode cX6_pass 33 = .ok (.invokevirtual 42, 3) := by decide +kernel
theorem dX6_pass_36 : decode cX6_pass 36 = .ok (.iconst 0, 1) := by decide +kernel
theorem dX6_pass_37 : decode cX6_pass 37 = .ok (.istore_n 2, 1) := by decide +kernel
theorem dX6_pass_38 : decode cX6_pass 38 = .ok (.iload_n 2, 1) := by decide +kernel
theorem dX6_pass_39 : decode cX6_pass 39 = .ok (.iload_n 1, 1) := by decide +kernel
theorem dX6_pass_40 : decode cX6_pass 40 = .ok (.if_icmp .ge 16, 3) := by decide +kernel
theorem dX6_pass_43 : decode cX6_pass 43 = .ok (.aload_n 0, 1) := by decide +kernel
theorem dX6_pass_44 : decode cX6_pass 44 = .ok (.getfield 10, 3) := by decide +kernel
theorem dX6_pass_47 : decode cX6_pass 47 = .ok (.invokevirtual 162, 3) := by decide +kernel
theorem dX6_pass_50 : decode cX6_pass 50 = .ok (.iinc 2 1, 3) := by decide +kernel
theorem dX6_pass_53 : decode cX6_pass 53 = .ok (.goto (-15), 3) := by decide +kernel
theorem dX6_pass_56 : decode cX6_pass 56 = .ok (.aload_n 0, 1) := by decide +kernel
theorem dX6_pass_57 : decode cX6_pass 57 = .ok (.getfield 10, 3) := by decide +kernel
theorem dX6_pass_60 : decode cX6_pass 60 = .ok (.getfield 159, 3) := by decide +kernel
theorem dX6_pass_63 : decode cX6_pass 63 = .ok (.ireturn, 1) := by decide +kernel
theorem dX6_foresee_0 : decode cX6_foresee 0 = .ok (.iload_n 1, 1) := by decide +kernel
theorem dX6_foresee_1 : decode cX6_foresee 1 = .ok (.iconst 1, 1) := by decide +kernel
theorem dX6_foresee_2 : decode cX6_foresee 2 = .ok (.sipush 1440, 3) := by decide +kernel
theorem dX6_foresee_5 : decode cX6_foresee 5 = .ok (.invokestatic 30, 3) := by decide +kernel
theorem dX6_foresee_8 : decode cX6_foresee 8 = .ok (.ifCond .eq 12, 3) := by decide +kernel
theorem dX6_foresee_11 : decode cX6_foresee 11 = .ok (.iload_n 2, 1) := by decide +kernel
theorem dX6_foresee_12 : decode cX6_foresee 12 = .ok (.iconst 0, 1) := by decide +kernel
theorem dX6_foresee_13 : decode cX6_foresee 13 = .ok (.iconst 4, 1) := by decide +kernel
theorem dX6_foresee_14 : decode cX6_foresee 14 = .ok (.invokestatic 30, 3) := by decide +kernel
theorem dX6_foresee_17 : decode cX6_foresee 17 = .ok (.ifCond .ne 6, 3) := by decide +kernel
theorem dX6_foresee_20 : decode cX6_foresee 20 = .ok (.ldc 41, 2) := by decide +kernel
theorem dX6_foresee_22 : decode cX6_foresee 22 = .ok (.ireturn, 1) := by decide +kernel
theorem dX6_foresee_23 : decode cX6_foresee 23 = .ok (.aload_n 0, 1) := by decide +kernel
theorem dX6_foresee_24 : decode cX6_foresee 24 = .ok (.getfield 16, 3) := by decide +kernel
theorem dX6_foresee_27 : decode cX6_foresee 27 = .ok (.aload_n 0, 1) := by decide +kernel
theorem dX6_foresee_28 : decode cX6_foresee 28 = .ok (.getfield 10, 3) := by decide +kernel
theorem dX6_foresee_31 : decode cX6_foresee 31 = .ok (.invokevirtual 165, 3) := by decide +kernel
theorem dX6_foresee_34 : decode cX6_foresee 34 = .ok (.iconst 0, 1) := by decide +kernel
theorem dX6_foresee_35 : decode cX6_foresee 35 = .ok (.istore_n 3, 1) := by decide +kernel
theorem dX6_foresee_36 : decode cX6_foresee 36 = .ok (.iload_n 3, 1) := by decide +kernel
theorem dX6_foresee_37 : decode cX6_foresee 37 = .ok (.iload_n 1, 1) := by decide +kernel
theorem dX6_foresee_38 : decode cX6_foresee 38 = .ok (.if_icmp .ge 16, 3) := by decide +kernel
theorem dX6_foresee_41 : decode cX6_foresee 41 = .ok (.aload_n 0, 1) := by decide +kernel
theorem dX6_foresee_42 : decode cX6_foresee 42 = .ok (.getfield 16, 3) := by decide +kernel
theorem dX6_foresee_45 : decode cX6_foresee 45 = .ok (.invokevirtual 162, 3) := by decide +kernel
theorem dX6_foresee_48 : decode cX6_foresee 48 = .ok (.iinc 3 1, 3) := by decide +kernel
theorem dX6_foresee_51 : decode cX6_foresee 51 = .ok (.goto (-15), 3) := by decide +kernel
theorem dX6_foresee_54 : decode cX6_foresee 54 = .ok (.iload_n 2, 1) := by decide +kernel
theorem dX6_foresee_55 : decode cX6_foresee 55 = .ok (.tableswitch 86 0 3 #[29, 37, 45, 56], 29) := by decide +kernel
theorem dX6_foresee_84 : decode cX6_foresee 84 = .ok (.aload_n 0, 1) := by decide +kernel
theorem dX6_foresee_85 : decode cX6_foresee 85 = .ok (.getfield 16, 3) := by decide +kernel
theorem dX6_foresee_88 : decode cX6_foresee 88 = .ok (.getfield 100, 3) := by decide +kernel
theorem dX6_foresee_91 : decode cX6_foresee 91 = .ok (.ireturn, 1) := by decide +kernel
theorem dX6_foresee_92 : decode cX6_foresee 92 = .ok (.aload_n 0, 1) := by decide +kernel
theorem dX6_foresee_93 : decode cX6_foresee 93 = .ok (.getfield 16, 3) := by decide +kernel
theorem dX6_foresee_96 : decode cX6_foresee 96 = .ok (.getfield 150, 3) := by decide +kernel
theorem dX6_foresee_99 : decode cX6_foresee 99 = .ok (.ireturn, 1) := by decide +kernel
theorem dX6_foresee_100 : decode cX6_foresee 100 = .ok (.aload_n 0, 1) := by decide +kernel
theorem dX6_foresee_101 : decode cX6_foresee 101 = .ok (.getfield 16, 3) := by decide +kernel
theorem dX6_foresee_104 : decode cX6_foresee 104 = .ok (.getfield 50, 3) := by decide +kernel
theorem dX6_foresee_107 : decode cX6_foresee 107 = .ok (.invokevirtual 169, 3) := by decide +kernel
theorem dX6_foresee_110 : decode cX6_foresee 110 = .ok (.ireturn, 1) := by decide +kernel
theorem dX6_foresee_111 : decode cX6_foresee 111 = .ok (.aload_n 0, 1) := by decide +kernel
theorem dX6_foresee_112 : decode cX6_foresee 112 = .ok (.getfield 16, 3) := by decide +kernel
theorem dX6_foresee_115 : decode cX6_foresee 115 = .ok (.getfield 50, 3) := by decide +kernel
theorem dX6_foresee_118 : decode cX6_foresee 118 = .ok (.getfield 88, 3) := by decide +kernel
theorem dX6_foresee_121 : decode cX6_foresee 121 = .ok (.iconst (-1), 1) := by decide +kernel
theorem dX6_foresee_122 : decode cX6_foresee 122 = .ok (.if_icmp .ne 8, 3) := by decide +kernel
theorem dX6_foresee_125 : decode cX6_foresee 125 = .ok (.ldc 110, 2) := by decide +kernel
theorem dX6_foresee_127 : decode cX6_foresee 127 = .ok (.goto 13, 3) := by decide +kernel
theorem dX6_foresee_130 : decode cX6_foresee 130 = .ok (.aload_n 0, 1) := by decide +kernel
theorem dX6_foresee_131 : decode cX6_foresee 131 = .ok (.getfield 16, 3) := by decide +kernel
theorem dX6_foresee_134 : decode cX6_foresee 134 = .ok (.getfield 50, 3) := by decide +kernel
theorem dX6_foresee_137 : decode cX6_foresee 137 = .ok (.getfield 88, 3) := by decide +kernel
theorem dX6_foresee_140 : decode cX6_foresee 140 = .ok (.ireturn, 1) := by decide +kernel
theorem dX6_foresee_141 : decode cX6_foresee 141 = .ok (.aload_n 0, 1) := by decide +kernel
theorem dX6_foresee_142 : decode cX6_foresee 142 = .ok (.getfield 16, 3) := by decide +kernel
theorem dX6_foresee_145 : decode cX6_foresee 145 = .ok (.getfield 172, 3) := by decide +kernel
theorem dX6_foresee_148 : decode cX6_foresee 148 = .ok (.ireturn, 1) := by decide +kernel
theorem dX6_station_0 : decode cX6_station 0 = .ok (.iload_n 1, 1) := by decide +kernel
theorem dX6_station_1 : decode cX6_station 1 = .ok (.tableswitch 234 0 14 #[75, 83, 91, 99, 107, 137, 148, 164, 172, 180, 191, 202, 210, 218, 226], 75) := by decide +kernel
theorem dX6_station_76 : decode cX6_station 76 = .ok (.aload_n 0, 1) := by decide +kernel
theorem dX6_station_77 : decode cX6_station 77 = .ok (.getfield 10, 3) := by decide +kernel
theorem dX6_station_80 : decode cX6_station 80 = .ok (.getfield 100, 3) := by decide +kernel
theorem dX6_station_83 : decode cX6_station 83 = .ok (.ireturn, 1) := by decide +kernel
theorem dX6_station_84 : decode cX6_station 84 = .ok (.aload_n 0, 1) := by decide +kernel
theorem dX6_station_85 : decode cX6_station 85 = .ok (.getfield 10, 3) := by decide +kernel
theorem dX6_station_88 : decode cX6_station 88 = .ok (.getfield 150, 3) := by decide +kernel
theorem dX6_station_91 : decode cX6_station 91 = .ok (.ireturn, 1) := by decide +kernel
theorem dX6_station_92 : decode cX6_station 92 = .ok (.aload_n 0, 1) := by decide +kernel
theorem dX6_station_93 : decode cX6_station 93 = .ok (.getfield 10, 3) := by decide +kernel
theorem dX6_station_96 : decode cX6_station 96 = .ok (.getfield 172, 3) := by decide +kernel
theorem dX6_station_99 : decode cX6_station 99 = .ok (.ireturn, 1) := by decide +kernel
theorem dX6_station_100 : decode cX6_station 100 = .ok (.aload_n 0, 1) := by decide +kernel
theorem dX6_station_101 : decode cX6_station 101 = .ok (.getfield 10, 3) := by decide +kernel
theorem dX6_station_104 : decode cX6_station 104 = .ok (.invokevirtual 184, 3) := by decide +kernel
theorem dX6_station_107 : decode cX6_station 107 = .ok (.ireturn, 1) := by decide +kernel
theorem dX6_station_108 : decode cX6_station 108 = .ok (.aload_n 0, 1) := by decide +kernel
theorem dX6_station_109 : decode cX6_station 109 = .ok (.getfield 10, 3) := by decide +kernel
theorem dX6_station_112 : decode cX6_station 112 = .ok (.getfield 50, 3) := by decide +kernel
theorem dX6_station_115 : decode cX6_station 115 = .ok (.getfield 88, 3) := by decide +kernel
theorem dX6_station_118 : decode cX6_station 118 = .ok (.iconst (-1), 1) := by decide +kernel
theorem dX6_station_119 : decode cX6_station 119 = .ok (.if_icmp .ne 8, 3) := by decide +kernel
theorem dX6_station_122 : decode cX6_station 122 = .ok (.ldc 110, 2) := by decide +kernel
theorem dX6_station_124 : decode cX6_station 124 = .ok (.goto 13, 3) := by decide +kernel
theorem dX6_station_127 : decode cX6_station 127 = .ok (.aload_n 0, 1) := by decide +kernel
theorem dX6_station_128 : decode cX6_station 128 = .ok (.getfield 10, 3) := by decide +kernel
theorem dX6_station_131 : decode cX6_station 131 = .ok (.getfield 50, 3) := by decide +kernel
theorem dX6_station_134 : decode cX6_station 134 = .ok (.getfield 88, 3) := by decide +kernel
theorem dX6_station_137 : decode cX6_station 137 = .ok (.ireturn, 1) := by decide +kernel
theorem dX6_station_138 : decode cX6_station 138 = .ok (.aload_n 0, 1) := by decide +kernel
theorem dX6_station_139 : decode cX6_station 139 = .ok (.getfield 10, 3) := by decide +kernel
theorem dX6_station_142 : decode cX6_station 142 = .ok (.getfield 50, 3) := by decide +kernel
theorem dX6_station_145 : decode cX6_station 145 = .ok (.invokevirtual 169, 3) := by decide +kernel
theorem dX6_station_148 : decode cX6_station 148 = .ok (.ireturn, 1) := by decide +kernel
theorem dX6_station_149 : decode cX6_station 149 = .ok (.aload_n 0, 1) := by decide +kernel
theorem dX6_station_150 : decode cX6_station 150 = .ok (.getfield 10, 3) := by decide +kernel
theorem dX6_station_153 : decode cX6_station 153 = .ok (.getfield 187, 3) := by decide +kernel
theorem dX6_station_156 : decode cX6_station 156 = .ok (.ifCond .eq 7, 3) := by decide +kernel
theorem dX6_station_159 : decode cX6_station 159 = .ok (.iconst 1, 1) := by decide +kernel
theorem dX6_station_160 : decode cX6_station 160 = .ok (.goto 4, 3) := by decide +kernel
theorem dX6_station_163 : decode cX6_station 163 = .ok (.iconst 0, 1) := by decide +kernel
theorem dX6_station_164 : decode cX6_station 164 = .ok (.ireturn, 1) := by decide +kernel
theorem dX6_station_165 : decode cX6_station 165 = .ok (.aload_n 0, 1) := by decide +kernel
theorem dX6_station_166 : decode cX6_station 166 = .ok (.getfield 10, 3) := by decide +kernel
theorem dX6_station_169 : decode cX6_station 169 = .ok (.getfield 153, 3) := by decide +kernel
theorem dX6_station_172 : decode cX6_station 172 = .ok (.ireturn, 1) := by decide +kernel
theorem dX6_station_173 : decode cX6_station 173 = .ok (.aload_n 0, 1) := by decide +kernel
theorem dX6_station_174 : decode cX6_station 174 = .ok (.getfield 10, 3) := by decide +kernel
theorem dX6_station_177 : decode cX6_station 177 = .ok (.getfield 191, 3) := by decide +kernel
theorem dX6_station_180 : decode cX6_station 180 = .ok (.ireturn, 1) := by decide +kernel
theorem dX6_station_181 : decode cX6_station 181 = .ok (.aload_n 0, 1) := by decide +kernel
theorem dX6_station_182 : decode cX6_station 182 = .ok (.getfield 10, 3) := by decide +kernel
theorem dX6_station_185 : decode cX6_station 185 = .ok (.getfield 194, 3) := by decide +kernel
theorem dX6_station_188 : decode cX6_station 188 = .ok (.getfield 198, 3) := by decide +kernel
theorem dX6_station_191 : decode cX6_station 191 = .ok (.ireturn, 1) := by decide +kernel
theorem dX6_station_192 : decode cX6_station 192 = .ok (.aload_n 0, 1) := by decide +kernel
theorem dX6_station_193 : decode cX6_station 193 = .ok (.getfield 10, 3) := by decide +kernel
theorem dX6_station_196 : decode cX6_station 196 = .ok (.getfield 194, 3) := by decide +kernel
theorem dX6_station_199 : decode cX6_station 199 = .ok (.getfield 203, 3) := by decide +kernel
theorem dX6_station_202 : decode cX6_station 202 = .ok (.ireturn, 1) := by decide +kernel
theorem dX6_station_203 : decode cX6_station 203 = .ok (.aload_n 0, 1) := by decide +kernel
theorem dX6_station_204 : decode cX6_station 204 = .ok (.getfield 10, 3) := by decide +kernel
theorem dX6_station_207 : decode cX6_station 207 = .ok (.getfield 206, 3) := by decide +kernel
theorem dX6_station_210 : decode cX6_station 210 = .ok (.ireturn, 1) := by decide +kernel
theorem dX6_station_211 : decode cX6_station 211 = .ok (.aload_n 0, 1) := by decide +kernel
theorem dX6_station_212 : decode cX6_station 212 = .ok (.getfield 10, 3) := by decide +kernel
theorem dX6_station_215 : decode cX6_station 215 = .ok (.getfield 209, 3) := by decide +kernel
theorem dX6_station_218 : decode cX6_station 218 = .ok (.ireturn, 1) := by decide +kernel
theorem dX6_station_219 : decode cX6_station 219 = .ok (.aload_n 0, 1) := by decide +kernel
theorem dX6_station_220 : decode cX6_station 220 = .ok (.getfield 10, 3) := by decide +kernel
theorem dX6_station_223 : decode cX6_station 223 = .ok (.getfield 212, 3) := by decide +kernel
theorem dX6_station_226 : decode cX6_station 226 = .ok (.ireturn, 1) := by decide +kernel
theorem dX6_station_227 : decode cX6_station 227 = .ok (.aload_n 0, 1) := by decide +kernel
theorem dX6_station_228 : decode cX6_station 228 = .ok (.getfield 10, 3) := by decide +kernel
theorem dX6_station_231 : decode cX6_station 231 = .ok (.getfield 215, 3) := by decide +kernel
theorem dX6_station_234 : decode cX6_station 234 = .ok (.ireturn, 1) := by decide +kernel
theorem dX6_station_235 : decode cX6_station 235 = .ok (.ldc 41, 2) := by decide +kernel
theorem dX6_station_237 : decode cX6_station 237 = .ok (.ireturn, 1) := by decide +kernel
theorem dX6_eventAt_0 : decode cX6_eventAt 0 = .ok (.iload_n 1, 1) := by decide +kernel
theorem dX6_eventAt_1 : decode cX6_eventAt 1 = .ok (.ifCond .lt 12, 3) := by decide +kernel
theorem dX6_eventAt_4 : decode cX6_eventAt 4 = .ok (.iload_n 2, 1) := by decide +kernel
theorem dX6_eventAt_5 : decode cX6_eventAt 5 = .ok (.iconst 0, 1) := by decide +kernel
theorem dX6_eventAt_6 : decode cX6_eventAt 6 = .ok (.iconst 2, 1) := by decide +kernel
theorem dX6_eventAt_7 : decode cX6_eventAt 7 = .ok (.invokestatic 30, 3) := by decide +kernel
theorem dX6_eventAt_10 : decode cX6_eventAt 10 = .ok (.ifCond .ne 6, 3) := by decide +kernel
theorem dX6_eventAt_13 : decode cX6_eventAt 13 = .ok (.ldc 41, 2) := by decide +kernel
theorem dX6_eventAt_15 : decode cX6_eventAt 15 = .ok (.ireturn, 1) := by decide +kernel
theorem dX6_eventAt_16 : decode cX6_eventAt 16 = .ok (.aload_n 0, 1) := by decide +kernel
theorem dX6_eventAt_17 : decode cX6_eventAt 17 = .ok (.getfield 10, 3) := by decide +kernel
theorem dX6_eventAt_20 : decode cX6_eventAt 20 = .ok (.getfield 177, 3) := by decide +kernel
theorem dX6_eventAt_23 : decode cX6_eventAt 23 = .ok (.astore_n 3, 1) := by decide +kernel
theorem dX6_eventAt_24 : decode cX6_eventAt 24 = .ok (.aload_n 3, 1) := by decide +kernel
theorem dX6_eventAt_25 : decode cX6_eventAt 25 = .ok (.iload_n 1, 1) := by decide +kernel
theorem dX6_eventAt_26 : decode cX6_eventAt 26 = .ok (.invokevirtual 222, 3) := by decide +kernel
theorem dX6_eventAt_29 : decode cX6_eventAt 29 = .ok (.istore 4, 2) := by decide +kernel
theorem dX6_eventAt_31 : decode cX6_eventAt 31 = .ok (.iload 4, 2) := by decide +kernel
theorem dX6_eventAt_33 : decode cX6_eventAt 33 = .ok (.iconst (-1), 1) := by decide +kernel
theorem dX6_eventAt_34 : decode cX6_eventAt 34 = .ok (.if_icmp .ne 6, 3) := by decide +kernel
theorem dX6_eventAt_37 : decode cX6_eventAt 37 = .ok (.ldc 110, 2) := by decide +kernel
theorem dX6_eventAt_39 : decode cX6_eventAt 39 = .ok (.ireturn, 1) := by decide +kernel
theorem dX6_eventAt_40 : decode cX6_eventAt 40 = .ok (.iload_n 2, 1) := by decide +kernel
theorem dX6_eventAt_41 : decode cX6_eventAt 41 = .ok (.ifCond .ne 11, 3) := by decide +kernel
theorem dX6_eventAt_44 : decode cX6_eventAt 44 = .ok (.aload_n 3, 1) := by decide +kernel
theorem dX6_eventAt_45 : decode cX6_eventAt 45 = .ok (.getfield 225, 3) := by decide +kernel
theorem dX6_eventAt_48 : decode cX6_eventAt 48 = .ok (.iload 4, 2) := by decide +kernel
theorem dX6_eventAt_50 : decode cX6_eventAt 50 = .ok (.iaload, 1) := by decide +kernel
theorem dX6_eventAt_51 : decode cX6_eventAt 51 = .ok (.ireturn, 1) := by decide +kernel
theorem dX6_eventAt_52 : decode cX6_eventAt 52 = .ok (.iload_n 2, 1) := by decide +kernel
theorem dX6_eventAt_53 : decode cX6_eventAt 53 = .ok (.iconst 1, 1) := by decide +kernel
theorem dX6_eventAt_54 : decode cX6_eventAt 54 = .ok (.if_icmp .ne 11, 3) := by decide +kernel
theorem dX6_eventAt_57 : decode cX6_eventAt 57 = .ok (.aload_n 3, 1) := by decide +kernel
theorem dX6_eventAt_58 : decode cX6_eventAt 58 = .ok (.getfield 226, 3) := by decide +kernel
theorem dX6_eventAt_61 : decode cX6_eventAt 61 = .ok (.iload 4, 2) := by decide +kernel
theorem dX6_eventAt_63 : decode cX6_eventAt 63 = .ok (.iaload, 1) := by decide +kernel
theorem dX6_eventAt_64 : decode cX6_eventAt 64 = .ok (.ireturn, 1) := by decide +kernel
theorem dX6_eventAt_65 : decode cX6_eventAt 65 = .ok (.aload_n 3, 1) := by decide +kernel
theorem dX6_eventAt_66 : decode cX6_eventAt 66 = .ok (.getfield 229, 3) := by decide +kernel
theorem dX6_eventAt_69 : decode cX6_eventAt 69 = .ok (.iload 4, 2) := by decide +kernel
theorem dX6_eventAt_71 : decode cX6_eventAt 71 = .ok (.iaload, 1) := by decide +kernel
theorem dX6_eventAt_72 : decode cX6_eventAt 72 = .ok (.iconst (-1), 1) := by decide +kernel
theorem dX6_eventAt_73 : decode cX6_eventAt 73 = .ok (.if_icmp .ne 8, 3) := by decide +kernel
theorem dX6_eventAt_76 : decode cX6_eventAt 76 = .ok (.ldc 110, 2) := by decide +kernel
theorem dX6_eventAt_78 : decode cX6_eventAt 78 = .ok (.goto 10, 3) := by decide +kernel
theorem dX6_eventAt_81 : decode cX6_eventAt 81 = .ok (.aload_n 3, 1) := by decide +kernel
theorem dX6_eventAt_82 : decode cX6_eventAt 82 = .ok (.getfield 229, 3) := by decide +kernel
theorem dX6_eventAt_85 : decode cX6_eventAt 85 = .ok (.iload 4, 2) := by decide +kernel
theorem dX6_eventAt_87 : decode cX6_eventAt 87 = .ok (.iaload, 1) := by decide +kernel
theorem dX6_eventAt_88 : decode cX6_eventAt 88 = .ok (.ireturn, 1) := by decide +kernel
theorem dX6_count_0 : decode cX6_count 0 = .ok (.iload_n 1, 1) := by decide +kernel
theorem dX6_count_1 : decode cX6_count 1 = .ok (.bipush 20, 2) := by decide +kernel
theorem dX6_count_3 : decode cX6_count 3 = .ok (.bipush 38, 2) := by decide +kernel
theorem dX6_count_5 : decode cX6_count 5 = .ok (.invokestatic 30, 3) := by decide +kernel
theorem dX6_count_8 : decode cX6_count 8 = .ok (.ifCond .eq 16, 3) := by decide +kernel
theorem dX6_count_11 : decode cX6_count 11 = .ok (.aload_n 0, 1) := by decide +kernel
theorem dX6_count_12 : decode cX6_count 12 = .ok (.getfield 10, 3) := by decide +kernel
theorem dX6_count_15 : decode cX6_count 15 = .ok (.getfield 45, 3) := by decide +kernel
theorem dX6_count_18 : decode cX6_count 18 = .ok (.iload_n 1, 1) := by decide +kernel
theorem dX6_count_19 : decode cX6_count 19 = .ok (.bipush 20, 2) := by decide +kernel
theorem dX6_count_21 : decode cX6_count 21 = .ok (.isub, 1) := by decide +kernel
theorem dX6_count_22 : decode cX6_count 22 = .ok (.iaload, 1) := by decide +kernel
theorem dX6_count_23 : decode cX6_count 23 = .ok (.ireturn, 1) := by decide +kernel
theorem dX6_count_24 : decode cX6_count 24 = .ok (.iload_n 1, 1) := by decide +kernel
theorem dX6_count_25 : decode cX6_count 25 = .ok (.tableswitch 169 0 10 #[59, 70, 81, 92, 103, 114, 125, 136, 144, 156, 161], 59) := by decide +kernel
theorem dX6_count_84 : decode cX6_count 84 = .ok (.aload_n 0, 1) := by decide +kernel
theorem dX6_count_85 : decode cX6_count 85 = .ok (.getfield 10, 3) := by decide +kernel
theorem dX6_count_88 : decode cX6_count 88 = .ok (.getfield 50, 3) := by decide +kernel
theorem dX6_count_91 : decode cX6_count 91 = .ok (.getfield 54, 3) := by decide +kernel
theorem dX6_count_94 : decode cX6_count 94 = .ok (.ireturn, 1) := by decide +kernel
theorem dX6_count_95 : decode cX6_count 95 = .ok (.aload_n 0, 1) := by decide +kernel
theorem dX6_count_96 : decode cX6_count 96 = .ok (.getfield 10, 3) := by decide +kernel
theorem dX6_count_99 : decode cX6_count 99 = .ok (.getfield 115, 3) := by decide +kernel
theorem dX6_count_102 : decode cX6_count 102 = .ok (.getfield 119, 3) := by decide +kernel
theorem dX6_count_105 : decode cX6_count 105 = .ok (.ireturn, 1) := by decide +kernel
theorem dX6_count_106 : decode cX6_count 106 = .ok (.aload_n 0, 1) := by decide +kernel
theorem dX6_count_107 : decode cX6_count 107 = .ok (.getfield 10, 3) := by decide +kernel
theorem dX6_count_110 : decode cX6_count 110 = .ok (.getfield 115, 3) := by decide +kernel
theorem dX6_count_113 : decode cX6_count 113 = .ok (.getfield 134, 3) := by decide +kernel
theorem dX6_count_116 : decode cX6_count 116 = .ok (.ireturn, 1) := by decide +kernel
theorem dX6_count_117 : decode cX6_count 117 = .ok (.aload_n 0, 1) := by decide +kernel
theorem dX6_count_118 : decode cX6_count 118 = .ok (.getfield 10, 3) := by decide +kernel
theorem dX6_count_121 : decode cX6_count 121 = .ok (.getfield 115, 3) := by decide +kernel
theorem dX6_count_124 : decode cX6_count 124 = .ok (.invokevirtual 128, 3) := by decide +kernel
theorem dX6_count_127 : decode cX6_count 127 = .ok (.ireturn, 1) := by decide +kernel
theorem dX6_count_128 : decode cX6_count 128 = .ok (.aload_n 0, 1) := by decide +kernel
theorem dX6_count_129 : decode cX6_count 129 = .ok (.getfield 10, 3) := by decide +kernel
theorem dX6_count_132 : decode cX6_count 132 = .ok (.getfield 50, 3) := by decide +kernel
theorem dX6_count_135 : decode cX6_count 135 = .ok (.invokevirtual 231, 3) := by decide +kernel
theorem dX6_count_138 : decode cX6_count 138 = .ok (.ireturn, 1) := by decide +kernel
theorem dX6_count_139 : decode cX6_count 139 = .ok (.aload_n 0, 1) := by decide +kernel
theorem dX6_count_140 : decode cX6_count 140 = .ok (.getfield 10, 3) := by decide +kernel
theorem dX6_count_143 : decode cX6_count 143 = .ok (.getfield 194, 3) := by decide +kernel
theorem dX6_count_146 : decode cX6_count 146 = .ok (.getfield 234, 3) := by decide +kernel
theorem dX6_count_149 : decode cX6_count 149 = .ok (.ireturn, 1) := by decide +kernel
theorem dX6_count_150 : decode cX6_count 150 = .ok (.aload_n 0, 1) := by decide +kernel
theorem dX6_count_151 : decode cX6_count 151 = .ok (.getfield 10, 3) := by decide +kernel
theorem dX6_count_154 : decode cX6_count 154 = .ok (.getfield 177, 3) := by decide +kernel
theorem dX6_count_157 : decode cX6_count 157 = .ok (.invokevirtual 235, 3) := by decide +kernel
theorem dX6_count_160 : decode cX6_count 160 = .ok (.ireturn, 1) := by decide +kernel
theorem dX6_count_161 : decode cX6_count 161 = .ok (.aload_n 0, 1) := by decide +kernel
theorem dX6_count_162 : decode cX6_count 162 = .ok (.getfield 10, 3) := by decide +kernel
theorem dX6_count_165 : decode cX6_count 165 = .ok (.getfield 159, 3) := by decide +kernel
theorem dX6_count_168 : decode cX6_count 168 = .ok (.ireturn, 1) := by decide +kernel
theorem dX6_count_169 : decode cX6_count 169 = .ok (.aload_n 0, 1) := by decide +kernel
theorem dX6_count_170 : decode cX6_count 170 = .ok (.getfield 10, 3) := by decide +kernel
theorem dX6_count_173 : decode cX6_count 173 = .ok (.getfield 159, 3) := by decide +kernel
theorem dX6_count_176 : decode cX6_count 176 = .ok (.sipush 1440, 3) := by decide +kernel
theorem dX6_count_179 : decode cX6_count 179 = .ok (.irem, 1) := by decide +kernel
theorem dX6_count_180 : decode cX6_count 180 = .ok (.ireturn, 1) := by decide +kernel
theorem dX6_count_181 : decode cX6_count 181 = .ok (.aload_n 0, 1) := by decide +kernel
theorem dX6_count_182 : decode cX6_count 182 = .ok (.getfield 238, 3) := by decide +kernel
theorem dX6_count_185 : decode cX6_count 185 = .ok (.ireturn, 1) := by decide +kernel
theorem dX6_count_186 : decode cX6_count 186 = .ok (.aload_n 0, 1) := by decide +kernel
theorem dX6_count_187 : decode cX6_count 187 = .ok (.getfield 26, 3) := by decide +kernel
theorem dX6_count_190 : decode cX6_count 190 = .ok (.getfield 241, 3) := by decide +kernel
theorem dX6_count_193 : decode cX6_count 193 = .ok (.ireturn, 1) := by decide +kernel
theorem dX6_count_194 : decode cX6_count 194 = .ok (.ldc 41, 2) := by decide +kernel
theorem dX6_count_196 : decode cX6_count 196 = .ok (.ireturn, 1) := by decide +kernel
theorem dX6_undo_0 : decode cX6_undo 0 = .ok (.aload_n 0, 1) := by decide +kernel
theorem dX6_undo_1 : decode cX6_undo 1 = .ok (.getfield 238, 3) := by decide +kernel
theorem dX6_undo_4 : decode cX6_undo 4 = .ok (.ifCond .le 11, 3) := by decide +kernel
theorem dX6_undo_7 : decode cX6_undo 7 = .ok (.aload_n 0, 1) := by decide +kernel
theorem dX6_undo_8 : decode cX6_undo 8 = .ok (.getfield 238, 3) := by decide +kernel
theorem dX6_undo_11 : decode cX6_undo 11 = .ok (.iconst 4, 1) := by decide +kernel
theorem dX6_undo_12 : decode cX6_undo 12 = .ok (.if_icmp .le 6, 3) := by decide +kernel
theorem dX6_undo_15 : decode cX6_undo 15 = .ok (.ldc 71, 2) := by decide +kernel
theorem dX6_undo_17 : decode cX6_undo 17 = .ok (.ireturn, 1) := by decide +kernel
theorem dX6_undo_18 : decode cX6_undo 18 = .ok (.aload_n 0, 1) := by decide +kernel
theorem dX6_undo_19 : decode cX6_undo 19 = .ok (.dup, 1) := by decide +kernel
theorem dX6_undo_20 : decode cX6_undo 20 = .ok (.getfield 238, 3) := by decide +kernel
theorem dX6_undo_23 : decode cX6_undo 23 = .ok (.iconst 1, 1) := by decide +kernel
theorem dX6_undo_24 : decode cX6_undo 24 = .ok (.isub, 1) := by decide +kernel
theorem dX6_undo_25 : decode cX6_undo 25 = .ok (.putfield 238, 3) := by decide +kernel
theorem dX6_undo_28 : decode cX6_undo 28 = .ok (.aload_n 0, 1) := by decide +kernel
theorem dX6_undo_29 : decode cX6_undo 29 = .ok (.getfield 10, 3) := by decide +kernel
theorem dX6_undo_32 : decode cX6_undo 32 = .ok (.aload_n 0, 1) := by decide +kernel
theorem dX6_undo_33 : decode cX6_undo 33 = .ok (.getfield 19, 3) := by decide +kernel
theorem dX6_undo_36 : decode cX6_undo 36 = .ok (.aload_n 0, 1) := by decide +kernel
theorem dX6_undo_37 : decode cX6_undo 37 = .ok (.getfield 238, 3) := by decide +kernel
theorem dX6_undo_40 : decode cX6_undo 40 = .ok (.aaload, 1) := by decide +kernel
theorem dX6_undo_41 : decode cX6_undo 41 = .ok (.invokevirtual 165, 3) := by decide +kernel
theorem dX6_undo_44 : decode cX6_undo 44 = .ok (.aload_n 0, 1) := by decide +kernel
theorem dX6_undo_45 : decode cX6_undo 45 = .ok (.getfield 238, 3) := by decide +kernel
theorem dX6_undo_48 : decode cX6_undo 48 = .ok (.ireturn, 1) := by decide +kernel
theorem dX6_remember_0 : decode cX6_remember 0 = .ok (.aload_n 0, 1) := by decide +kernel
theorem dX6_remember_1 : decode cX6_remember 1 = .ok (.getfield 238, 3) := by decide +kernel
theorem dX6_remember_4 : decode cX6_remember 4 = .ok (.iconst 4, 1) := by decide +kernel
theorem dX6_remember_5 : decode cX6_remember 5 = .ok (.if_icmp .lt 49, 3) := by decide +kernel
theorem dX6_remember_8 : decode cX6_remember 8 = .ok (.aload_n 0, 1) := by decide +kernel
theorem dX6_remember_9 : decode cX6_remember 9 = .ok (.getfield 19, 3) := by decide +kernel
theorem dX6_remember_12 : decode cX6_remember 12 = .ok (.iconst 0, 1) := by decide +kernel
theorem dX6_remember_13 : decode cX6_remember 13 = .ok (.aaload, 1) := by decide +kernel
theorem dX6_remember_14 : decode cX6_remember 14 = .ok (.astore_n 1, 1) := by decide +kernel
theorem dX6_remember_15 : decode cX6_remember 15 = .ok (.iconst 1, 1) := by decide +kernel
theorem dX6_remember_16 : decode cX6_remember 16 = .ok (.istore_n 2, 1) := by decide +kernel
theorem dX6_remember_17 : decode cX6_remember 17 = .ok (.iload_n 2, 1) := by decide +kernel
theorem dX6_remember_18 : decode cX6_remember 18 = .ok (.iconst 4, 1) := by decide +kernel
theorem dX6_remember_19 : decode cX6_remember 19 = .ok (.if_icmp .ge 23, 3) := by decide +kernel
theorem dX6_remember_22 : decode cX6_remember 22 = .ok (.aload_n 0, 1) := by decide +kernel
theorem dX6_remember_23 : decode cX6_remember 23 = .ok (.getfield 19, 3) := by decide +kernel
theorem dX6_remember_26 : decode cX6_remember 26 = .ok (.iload_n 2, 1) := by decide +kernel
theorem dX6_remember_27 : decode cX6_remember 27 = .ok (.iconst 1, 1) := by decide +kernel
theorem dX6_remember_28 : decode cX6_remember 28 = .ok (.isub, 1) := by decide +kernel
theorem dX6_remember_29 : decode cX6_remember 29 = .ok (.aload_n 0, 1) := by decide +kernel
theorem dX6_remember_30 : decode cX6_remember 30 = .ok (.getfield 19, 3) := by decide +kernel
theorem dX6_remember_33 : decode cX6_remember 33 = .ok (.iload_n 2, 1) := by decide +kernel
theorem dX6_remember_34 : decode cX6_remember 34 = .ok (.aaload, 1) := by decide +kernel
theorem dX6_remember_35 : decode cX6_remember 35 = .ok (.aastore, 1) := by decide +kernel
theorem dX6_remember_36 : decode cX6_remember 36 = .ok (.iinc 2 1, 3) := by decide +kernel
theorem dX6_remember_39 : decode cX6_remember 39 = .ok (.goto (-22), 3) := by decide +kernel
theorem dX6_remember_42 : decode cX6_remember 42 = .ok (.aload_n 0, 1) := by decide +kernel
theorem dX6_remember_43 : decode cX6_remember 43 = .ok (.getfield 19, 3) := by decide +kernel
theorem dX6_remember_46 : decode cX6_remember 46 = .ok (.iconst 3, 1) := by decide +kernel
theorem dX6_remember_47 : decode cX6_remember 47 = .ok (.aload_n 1, 1) := by decide +kernel
theorem dX6_remember_48 : decode cX6_remember 48 = .ok (.aastore, 1) := by decide +kernel
theorem dX6_remember_49 : decode cX6_remember 49 = .ok (.aload_n 0, 1) := by decide +kernel
theorem dX6_remember_50 : decode cX6_remember 50 = .ok (.iconst 3, 1) := by decide +kernel
theorem dX6_remember_51 : decode cX6_remember 51 = .ok (.putfield 238, 3) := by decide +kernel
theorem dX6_remember_54 : decode cX6_remember 54 = .ok (.aload_n 0, 1) := by decide +kernel
theorem dX6_remember_55 : decode cX6_remember 55 = .ok (.getfield 19, 3) := by decide +kernel
theorem dX6_remember_58 : decode cX6_remember 58 = .ok (.aload_n 0, 1) := by decide +kernel
theorem dX6_remember_59 : decode cX6_remember 59 = .ok (.getfield 238, 3) := by decide +kernel
theorem dX6_remember_62 : decode cX6_remember 62 = .ok (.aaload, 1) := by decide +kernel
theorem dX6_remember_63 : decode cX6_remember 63 = .ok (.astore_n 1, 1) := by decide +kernel
theorem dX6_remember_64 : decode cX6_remember 64 = .ok (.aload_n 1, 1) := by decide +kernel
theorem dX6_remember_65 : decode cX6_remember 65 = .ok (.ifnull 11, 3) := by decide +kernel
theorem dX6_remember_68 : decode cX6_remember 68 = .ok (.aload_n 1, 1) := by decide +kernel
theorem dX6_remember_69 : decode cX6_remember 69 = .ok (.aload_n 0, 1) := by decide +kernel
theorem dX6_remember_70 : decode cX6_remember 70 = .ok (.getfield 10, 3) := by decide +kernel
theorem dX6_remember_73 : decode cX6_remember 73 = .ok (.invokevirtual 165, 3) := by decide +kernel
theorem dX6_remember_76 : decode cX6_remember 76 = .ok (.aload_n 0, 1) := by decide +kernel
theorem dX6_remember_77 : decode cX6_remember 77 = .ok (.dup, 1) := by decide +kernel
theorem dX6_remember_78 : decode cX6_remember 78 = .ok (.getfield 238, 3) := by decide +kernel
theorem dX6_remember_81 : decode cX6_remember 81 = .ok (.iconst 1, 1) := by decide +kernel
theorem dX6_remember_82 : decode cX6_remember 82 = .ok (.iadd, 1) := by decide +kernel
theorem dX6_remember_83 : decode cX6_remember 83 = .ok (.putfield 238, 3) := by decide +kernel
theorem dX6_remember_86 : decode cX6_remember 86 = .ok (.return_, 1) := by decide +kernel
theorem dX6_within_0 : decode cX6_within 0 = .ok (.iload_n 0, 1) := by decide +kernel
theorem dX6_within_1 : decode cX6_within 1 = .ok (.iload_n 1, 1) := by decide +kernel
theorem dX6_within_2 : decode cX6_within 2 = .ok (.if_icmp .lt 12, 3) := by decide +kernel
theorem dX6_within_5 : decode cX6_within 5 = .ok (.iload_n 0, 1) := by decide +kernel
theorem dX6_within_6 : decode cX6_within 6 = .ok (.iload_n 2, 1) := by decide +kernel
theorem dX6_within_7 : decode cX6_within 7 = .ok (.if_icmp .gt 7, 3) := by decide +kernel
theorem dX6_within_10 : decode cX6_within 10 = .ok (.iconst 1, 1) := by decide +kernel
theorem dX6_within_11 : decode cX6_within 11 = .ok (.goto 4, 3) := by decide +kernel
theorem dX6_within_14 : decode cX6_within 14 = .ok (.iconst 0, 1) := by decide +kernel
theorem dX6_within_15 : decode cX6_within 15 = .ok (.ireturn, 1) := by decide +kernel
theorem dX6_hold_0 : decode cX6_hold 0 = .ok (.iload_n 1, 1) := by decide +kernel
theorem dX6_hold_1 : decode cX6_hold 1 = .ok (.iload_n 2, 1) := by decide +kernel
theorem dX6_hold_2 : decode cX6_hold 2 = .ok (.iload_n 0, 1) := by decide +kernel
theorem dX6_hold_3 : decode cX6_hold 3 = .ok (.invokestatic 291, 3) := by decide +kernel
theorem dX6_hold_6 : decode cX6_hold 6 = .ok (.invokestatic 296, 3) := by decide +kernel
theorem dX6_hold_9 : decode cX6_hold 9 = .ok (.ireturn, 1) := by decide +kernel
end
section
/-! decode rows -/
theorem dL_cell_0 : decode cL_cell 0 = .ok (.iload_n 1, 1) := by decide +kernel
theorem dL_cell_1 : decode cL_cell 1 = .ok (.aload_n 0, 1) := by decide +kernel
theorem dL_cell_2 : decode cL_cell 2 = .ok (.arraylength, 1) := by decide +kernel
theorem dL_cell_3 : decode cL_cell 3 = .ok (.if_icmp .ge 9, 3) := by decide +kernel
theorem dL_cell_6 : decode cL_cell 6 = .ok (.aload_n 0, 1) := by decide +kernel
theorem dL_cell_7 : decode cL_cell 7 = .ok (.iload_n 1, 1) := by decide +kernel
theorem dL_cell_8 : decode cL_cell 8 = .ok (.iaload, 1) := by decide +kernel
theorem dL_cell_9 : decode cL_cell 9 = .ok (.goto 11, 3) := by decide +kernel
theorem dL_cell_12 : decode cL_cell 12 = .ok (.ldc 7, 2) := by decide +kernel
theorem dL_cell_14 : decode cL_cell 14 = .ok (.iload_n 1, 1) := by decide +kernel
theorem dL_cell_15 : decode cL_cell 15 = .ok (.sipush 449, 3) := by decide +kernel
theorem dL_cell_18 : decode cL_cell 18 = .ok (.iadd, 1) := by decide +kernel
theorem dL_cell_19 : decode cL_cell 19 = .ok (.imul, 1) := by decide +kernel
theorem dL_cell_20 : decode cL_cell 20 = .ok (.ireturn, 1) := by decide +kernel
theorem dL_up_0 : decode cL_up 0 = .ok (.iload_n 0, 1) := by decide +kernel
theorem dL_up_1 : decode cL_up 1 = .ok (.ldc 8, 2) := by decide +kernel
theorem dL_up_3 : decode cL_up 3 = .ok (.iand, 1) := by decide +kernel
theorem dL_up_4 : decode cL_up 4 = .ok (.iload_n 1, 1) := by decide +kernel
theorem dL_up_5 : decode cL_up 5 = .ok (.irem, 1) := by decide +kernel
theorem dL_up_6 : decode cL_up 6 = .ok (.ireturn, 1) := by decide +kernel
theorem dL_isStep_0 : decode cL_isStep 0 = .ok (.iload_n 2, 1) := by decide +kernel
theorem dL_isStep_1 : decode cL_isStep 1 = .ok (.iconst 4, 1) := by decide +kernel
theorem dL_isStep_2 : decode cL_isStep 2 = .ok (.ishr, 1) := by decide +kernel
theorem dL_isStep_3 : decode cL_isStep 3 = .ok (.istore_n 3, 1) := by decide +kernel
theorem dL_isStep_4 : decode cL_isStep 4 = .ok (.iload_n 2, 1) := by decide +kernel
theorem dL_isStep_5 : decode cL_isStep 5 = .ok (.bipush 9, 2) := by decide +kernel
theorem dL_isStep_7 : decode cL_isStep 7 = .ok (.invokestatic 9, 3) := by decide +kernel
theorem dL_isStep_10 : decode cL_isStep 10 = .ok (.tableswitch 293 0 5 #[38, 83, 114, 157, 188, 205], 38) := by decide +kernel
theorem dL_isStep_48 : decode cL_isStep 48 = .ok (.iload_n 3, 1) := by decide +kernel
theorem dL_isStep_49 : decode cL_isStep 49 = .ok (.iconst 3, 1) := by decide +kernel
theorem dL_isStep_50 : decode cL_isStep 50 = .ok (.invokestatic 9, 3) := by decide +kernel
theorem dL_isStep_53 : decode cL_isStep 53 = .ok (.istore 4, 2) := by decide +kernel
theorem dL_isStep_55 : decode cL_isStep 55 = .ok (.iconst 1, 1) := by decide +kernel
theorem dL_isStep_56 : decode cL_isStep 56 = .ok (.aload_n 0, 1) := by decide +kernel
theorem dL_isStep_57 : decode cL_isStep 57 = .ok (.iload 4, 2) := by decide +kernel
theorem dL_isStep_59 : decode cL_isStep 59 = .ok (.iconst 1, 1) := by decide +kernel
theorem dL_isStep_60 : decode cL_isStep 60 = .ok (.invokevirtual 15, 3) := by decide +kernel
theorem dL_isStep_63 : decode cL_isStep 63 = .ok (.isub, 1) := by decide +kernel
theorem dL_isStep_64 : decode cL_isStep 64 = .ok (.istore 5, 2) := by decide +kernel
theorem dL_isStep_66 : decode cL_isStep 66 = .ok (.aload_n 0, 1) := by decide +kernel
theorem dL_isStep_67 : decode cL_isStep 67 = .ok (.iload 4, 2) := by decide +kernel
theorem dL_isStep_69 : decode cL_isStep 69 = .ok (.iload 5, 2) := by decide +kernel
theorem dL_isStep_71 : decode cL_isStep 71 = .ok (.invokevirtual 20, 3) := by decide +kernel
theorem dL_isStep_74 : decode cL_isStep 74 = .ok (.aload_n 1, 1) := by decide +kernel
theorem dL_isStep_75 : decode cL_isStep 75 = .ok (.iconst 2, 1) := by decide +kernel
theorem dL_isStep_76 : decode cL_isStep 76 = .ok (.iload 4, 2) := by decide +kernel
theorem dL_isStep_78 : decode cL_isStep 78 = .ok (.isub, 1) := by decide +kernel
theorem dL_isStep_79 : decode cL_isStep 79 = .ok (.iload 5, 2) := by decide +kernel
theorem dL_isStep_81 : decode cL_isStep 81 = .ok (.invokevirtual 20, 3) := by decide +kernel
theorem dL_isStep_84 : decode cL_isStep 84 = .ok (.if_icmp .ne 7, 3) := by decide +kernel
theorem dL_isStep_87 : decode cL_isStep 87 = .ok (.iconst 1, 1) := by decide +kernel
theorem dL_isStep_88 : decode cL_isStep 88 = .ok (.goto 4, 3) := by decide +kernel
theorem dL_isStep_91 : decode cL_isStep 91 = .ok (.iconst 0, 1) := by decide +kernel
theorem dL_isStep_92 : decode cL_isStep 92 = .ok (.ireturn, 1) := by decide +kernel
theorem dL_isStep_93 : decode cL_isStep 93 = .ok (.aload_n 0, 1) := by decide +kernel
theorem dL_isStep_94 : decode cL_isStep 94 = .ok (.iload_n 3, 1) := by decide +kernel
theorem dL_isStep_95 : decode cL_isStep 95 = .ok (.sipush 200, 3) := by decide +kernel
theorem dL_isStep_98 : decode cL_isStep 98 = .ok (.invokestatic 9, 3) := by decide +kernel
theorem dL_isStep_101 : decode cL_isStep 101 = .ok (.invokevirtual 23, 3) := by decide +kernel
theorem dL_isStep_104 : decode cL_isStep 104 = .ok (.aload_n 1, 1) := by decide +kernel
theorem dL_isStep_105 : decode cL_isStep 105 = .ok (.iload_n 3, 1) := by decide +kernel
theorem dL_isStep_106 : decode cL_isStep 106 = .ok (.sipush 200, 3) := by decide +kernel
theorem dL_isStep_109 : decode cL_isStep 109 = .ok (.invokestatic 9, 3) := by decide +kernel
theorem dL_isStep_112 : decode cL_isStep 112 = .ok (.invokevirtual 23, 3) := by decide +kernel
theorem dL_isStep_115 : decode cL_isStep 115 = .ok (.if_icmp .ne 7, 3) := by decide +kernel
theorem dL_isStep_118 : decode cL_isStep 118 = .ok (.iconst 1, 1) := by decide +kernel
theorem dL_isStep_119 : decode cL_isStep 119 = .ok (.goto 4, 3) := by decide +kernel
theorem dL_isStep_122 : decode cL_isStep 122 = .ok (.iconst 0, 1) := by decide +kernel
theorem dL_isStep_123 : decode cL_isStep 123 = .ok (.ireturn, 1) := by decide +kernel
theorem dL_isStep_124 : decode cL_isStep 124 = .ok (.iload_n 3, 1) := by decide +kernel
theorem dL_isStep_125 : decode cL_isStep 125 = .ok (.iconst 3, 1) := by decide +kernel
theorem dL_isStep_126 : decode cL_isStep 126 = .ok (.invokestatic 9, 3) := by decide +kernel
theorem dL_isStep_129 : decode cL_isStep 129 = .ok (.istore 4, 2) := by decide +kernel
theorem dL_isStep_131 : decode cL_isStep 131 = .ok (.iconst 1, 1) := by decide +kernel
theorem dL_isStep_132 : decode cL_isStep 132 = .ok (.aload_n 0, 1) := by decide +kernel
theorem dL_isStep_133 : decode cL_isStep 133 = .ok (.iload 4, 2) := by decide +kernel
theorem dL_isStep_135 : decode cL_isStep 135 = .ok (.iconst 3, 1) := by decide +kernel
theorem dL_isStep_136 : decode cL_isStep 136 = .ok (.invokevirtual 27, 3) := by decide +kernel
theorem dL_isStep_139 : decode cL_isStep 139 = .ok (.isub, 1) := by decide +kernel
theorem dL_isStep_140 : decode cL_isStep 140 = .ok (.istore 5, 2) := by decide +kernel
theorem dL_isStep_142 : decode cL_isStep 142 = .ok (.aload_n 0, 1) := by decide +kernel
theorem dL_isStep_143 : decode cL_isStep 143 = .ok (.iload 4, 2) := by decide +kernel
theorem dL_isStep_145 : decode cL_isStep 145 = .ok (.iload 5, 2) := by decide +kernel
theorem dL_isStep_147 : decode cL_isStep 147 = .ok (.invokevirtual 30, 3) := by decide +kernel
theorem dL_isStep_150 : decode cL_isStep 150 = .ok (.aload_n 1, 1) := by decide +kernel
theorem dL_isStep_151 : decode cL_isStep 151 = .ok (.iload 4, 2) := by decide +kernel
theorem dL_isStep_153 : decode cL_isStep 153 = .ok (.iload 5, 2) := by decide +kernel
theorem dL_isStep_155 : decode cL_isStep 155 = .ok (.invokevirtual 30, 3) := by decide +kernel
theorem dL_isStep_158 : decode cL_isStep 158 = .ok (.if_icmp .ne 7, 3) := by decide +kernel
theorem dL_isStep_161 : decode cL_isStep 161 = .ok (.iconst 1, 1) := by decide +kernel
theorem dL_isStep_162 : decode cL_isStep 162 = .ok (.goto 4, 3) := by decide +kernel
theorem dL_isStep_165 : decode cL_isStep 165 = .ok (.iconst 0, 1) := by decide +kernel
theorem dL_isStep_166 : decode cL_isStep 166 = .ok (.ireturn, 1) := by decide +kernel
theorem dL_isStep_167 : decode cL_isStep 167 = .ok (.aload_n 0, 1) := by decide +kernel
theorem dL_isStep_168 : decode cL_isStep 168 = .ok (.iload_n 3, 1) := by decide +kernel
theorem dL_isStep_169 : decode cL_isStep 169 = .ok (.sipush 20001, 3) := by decide +kernel
theorem dL_isStep_172 : decode cL_isStep 172 = .ok (.invokestatic 9, 3) := by decide +kernel
theorem dL_isStep_175 : decode cL_isStep 175 = .ok (.invokevirtual 33, 3) := by decide +kernel
theorem dL_isStep_178 : decode cL_isStep 178 = .ok (.aload_n 1, 1) := by decide +kernel
theorem dL_isStep_179 : decode cL_isStep 179 = .ok (.iload_n 3, 1) := by decide +kernel
theorem dL_isStep_180 : decode cL_isStep 180 = .ok (.sipush 20001, 3) := by decide +kernel
theorem dL_isStep_183 : decode cL_isStep 183 = .ok (.invokestatic 9, 3) := by decide +kernel
theorem dL_isStep_186 : decode cL_isStep 186 = .ok (.invokevirtual 33, 3) := by decide +kernel
theorem dL_isStep_189 : decode cL_isStep 189 = .ok (.if_icmp .ne 7, 3) := by decide +kernel
theorem dL_isStep_192 : decode cL_isStep 192 = .ok (.iconst 1, 1) := by decide +kernel
theorem dL_isStep_193 : decode cL_isStep 193 = .ok (.goto 4, 3) := by decide +kernel
theorem dL_isStep_196 : decode cL_isStep 196 = .ok (.iconst 0, 1) := by decide +kernel
theorem dL_isStep_197 : decode cL_isStep 197 = .ok (.ireturn, 1) := by decide +kernel
theorem dL_isStep_198 : decode cL_isStep 198 = .ok (.aload_n 0, 1) := by decide +kernel
theorem dL_isStep_199 : decode cL_isStep 199 = .ok (.invokevirtual 36, 3) := by decide +kernel
theorem dL_isStep_202 : decode cL_isStep 202 = .ok (.aload_n 1, 1) := by decide +kernel
theorem dL_isStep_203 : decode cL_isStep 203 = .ok (.invokevirtual 36, 3) := by decide +kernel
theorem dL_isStep_206 : decode cL_isStep 206 = .ok (.if_icmp .ne 7, 3) := by decide +kernel
theorem dL_isStep_209 : decode cL_isStep 209 = .ok (.iconst 1, 1) := by decide +kernel
theorem dL_isStep_210 : decode cL_isStep 210 = .ok (.goto 4, 3) := by decide +kernel
theorem dL_isStep_213 : decode cL_isStep 213 = .ok (.iconst 0, 1) := by decide +kernel
theorem dL_isStep_214 : decode cL_isStep 214 = .ok (.ireturn, 1) := by decide +kernel
theorem dL_isStep_215 : decode cL_isStep 215 = .ok (.iload_n 3, 1) := by decide +kernel
theorem dL_isStep_216 : decode cL_isStep 216 = .ok (.bipush 10, 2) := by decide +kernel
theorem dL_isStep_218 : decode cL_isStep 218 = .ok (.invokestatic 9, 3) := by decide +kernel
theorem dL_isStep_221 : decode cL_isStep 221 = .ok (.istore 4, 2) := by decide +kernel
theorem dL_isStep_223 : decode cL_isStep 223 = .ok (.iload 4, 2) := by decide +kernel
theorem dL_isStep_225 : decode cL_isStep 225 = .ok (.ifCond .ne 19, 3) := by decide +kernel
theorem dL_isStep_228 : decode cL_isStep 228 = .ok (.sipush 200, 3) := by decide +kernel
theorem dL_isStep_231 : decode cL_isStep 231 = .ok (.iload_n 3, 1) := by decide +kernel
theorem dL_isStep_232 : decode cL_isStep 232 = .ok (.iconst 4, 1) := by decide +kernel
theorem dL_isStep_233 : decode cL_isStep 233 = .ok (.ishr, 1) := by decide +kernel
theorem dL_isStep_234 : decode cL_isStep 234 = .ok (.sipush 500, 3) := by decide +kernel
theorem dL_isStep_237 : decode cL_isStep 237 = .ok (.invokestatic 9, 3) := by decide +kernel
theorem dL_isStep_240 : decode cL_isStep 240 = .ok (.iadd, 1) := by decide +kernel
theorem dL_isStep_241 : decode cL_isStep 241 = .ok (.goto 35, 3) := by decide +kernel
theorem dL_isStep_244 : decode cL_isStep 244 = .ok (.iload 4, 2) := by decide +kernel
theorem dL_isStep_246 : decode cL_isStep 246 = .ok (.iconst 4, 1) := by decide +kernel
theorem dL_isStep_247 : decode cL_isStep 247 = .ok (.if_icmp .ne 19, 3) := by decide +kernel
theorem dL_isStep_250 : decode cL_isStep 250 = .ok (.sipush 300, 3) := by decide +kernel
theorem dL_isStep_253 : decode cL_isStep 253 = .ok (.iload_n 3, 1) := by decide +kernel
theorem dL_isStep_254 : decode cL_isStep 254 = .ok (.iconst 4, 1) := by decide +kernel
theorem dL_isStep_255 : decode cL_isStep 255 = .ok (.ishr, 1) := by decide +kernel
theorem dL_isStep_256 : decode cL_isStep 256 = .ok (.sipush 600, 3) := by decide +kernel
theorem dL_isStep_259 : decode cL_isStep 259 = .ok (.invokestatic 9, 3) := by decide +kernel
theorem dL_isStep_262 : decode cL_isStep 262 = .ok (.iadd, 1) := by decide +kernel
theorem dL_isStep_263 : decode cL_isStep 263 = .ok (.goto 13, 3) := by decide +kernel
theorem dL_isStep_266 : decode cL_isStep 266 = .ok (.iconst 1, 1) := by decide +kernel
theorem dL_isStep_267 : decode cL_isStep 267 = .ok (.iload_n 3, 1) := by decide +kernel
theorem dL_isStep_268 : decode cL_isStep 268 = .ok (.iconst 4, 1) := by decide +kernel
theorem dL_isStep_269 : decode cL_isStep 269 = .ok (.ishr, 1) := by decide +kernel
theorem dL_isStep_270 : decode cL_isStep 270 = .ok (.bipush 50, 2) := by decide +kernel
theorem dL_isStep_272 : decode cL_isStep 272 = .ok (.invokestatic 9, 3) := by decide +kernel
theorem dL_isStep_275 : decode cL_isStep 275 = .ok (.iadd, 1) := by decide +kernel
theorem dL_isStep_276 : decode cL_isStep 276 = .ok (.istore 5, 2) := by decide +kernel
theorem dL_isStep_278 : decode cL_isStep 278 = .ok (.aload_n 0, 1) := by decide +kernel
theorem dL_isStep_279 : decode cL_isStep 279 = .ok (.iload 4, 2) := by decide +kernel
theorem dL_isStep_281 : decode cL_isStep 281 = .ok (.iload 5, 2) := by decide +kernel
theorem dL_isStep_283 : decode cL_isStep 283 = .ok (.invokevirtual 40, 3) := by decide +kernel
theorem dL_isStep_286 : decode cL_isStep 286 = .ok (.aload_n 1, 1) := by decide +kernel
theorem dL_isStep_287 : decode cL_isStep 287 = .ok (.iload 4, 2) := by decide +kernel
theorem dL_isStep_289 : decode cL_isStep 289 = .ok (.iload 5, 2) := by decide +kernel
theorem dL_isStep_291 : decode cL_isStep 291 = .ok (.invokevirtual 40, 3) := by decide +kernel
theorem dL_isStep_294 : decode cL_isStep 294 = .ok (.if_icmp .ne 7, 3) := by decide +kernel
theorem dL_isStep_297 : decode cL_isStep 297 = .ok (.iconst 1, 1) := by decide +kernel
theorem dL_isStep_298 : decode cL_isStep 298 = .ok (.goto 4, 3) := by decide +kernel
theorem dL_isStep_301 : decode cL_isStep 301 = .ok (.iconst 0, 1) := by decide +kernel
theorem dL_isStep_302 : decode cL_isStep 302 = .ok (.ireturn, 1) := by decide +kernel
theorem dL_isStep_303 : decode cL_isStep 303 = .ok (.aload_n 0, 1) := by decide +kernel
theorem dL_isStep_304 : decode cL_isStep 304 = .ok (.iconst 1, 1) := by decide +kernel
theorem dL_isStep_305 : decode cL_isStep 305 = .ok (.iload_n 3, 1) := by decide +kernel
theorem dL_isStep_306 : decode cL_isStep 306 = .ok (.bipush 50, 2) := by decide +kernel
theorem dL_isStep_308 : decode cL_isStep 308 = .ok (.invokestatic 9, 3) := by decide +kernel
theorem dL_isStep_311 : decode cL_isStep 311 = .ok (.iadd, 1) := by decide +kernel
theorem dL_isStep_312 : decode cL_isStep 312 = .ok (.invokevirtual 43, 3) := by decide +kernel
theorem dL_isStep_315 : decode cL_isStep 315 = .ok (.aload_n 1, 1) := by decide +kernel
theorem dL_isStep_316 : decode cL_isStep 316 = .ok (.iconst 1, 1) := by decide +kernel
theorem dL_isStep_317 : decode cL_isStep 317 = .ok (.iload_n 3, 1) := by decide +kernel
theorem dL_isStep_318 : decode cL_isStep 318 = .ok (.bipush 50, 2) := by decide +kernel
theorem dL_isStep_320 : decode cL_isStep 320 = .ok (.invokestatic 9, 3) := by decide +kernel
theorem dL_isStep_323 : decode cL_isStep 323 = .ok (.iadd, 1) := by decide +kernel
theorem dL_isStep_324 : decode cL_isStep 324 = .ok (.invokevirtual 43, 3) := by decide +kernel
theorem dL_isStep_327 : decode cL_isStep 327 = .ok (.if_icmp .ne 7, 3) := by decide +kernel
theorem dL_isStep_330 : decode cL_isStep 330 = .ok (.iconst 1, 1) := by decide +kernel
theorem dL_isStep_331 : decode cL_isStep 331 = .ok (.goto 4, 3) := by decide +kernel
theorem dL_isStep_334 : decode cL_isStep 334 = .ok (.iconst 0, 1) := by decide +kernel
theorem dL_isStep_335 : decode cL_isStep 335 = .ok (.ireturn, 1) := by decide +kernel
theorem dL_areAlike_0 : decode cL_areAlike 0 = .ok (.aload_n 0, 1) := by decide +kernel
theorem dL_areAlike_1 : decode cL_areAlike 1 = .ok (.invokevirtual 46, 3) := by decide +kernel
theorem dL_areAlike_4 : decode cL_areAlike 4 = .ok (.aload_n 1, 1) := by decide +kernel
theorem dL_areAlike_5 : decode cL_areAlike 5 = .ok (.invokevirtual 46, 3) := by decide +kernel
theorem dL_areAlike_8 : decode cL_areAlike 8 = .ok (.if_icmp .ne 37, 3) := by decide +kernel
theorem dL_areAlike_11 : decode cL_areAlike 11 = .ok (.aload_n 0, 1) := by decide +kernel
theorem dL_areAlike_12 : decode cL_areAlike 12 = .ok (.bipush 30, 2) := by decide +kernel
theorem dL_areAlike_14 : decode cL_areAlike 14 = .ok (.iconst 0, 1) := by decide +kernel
theorem dL_areAlike_15 : decode cL_areAlike 15 = .ok (.invokevirtual 49, 3) := by decide +kernel
theorem dL_areAlike_18 : decode cL_areAlike 18 = .ok (.aload_n 1, 1) := by decide +kernel
theorem dL_areAlike_19 : decode cL_areAlike 19 = .ok (.bipush 30, 2) := by decide +kernel
theorem dL_areAlike_21 : decode cL_areAlike 21 = .ok (.iconst 0, 1) := by decide +kernel
theorem dL_areAlike_22 : decode cL_areAlike 22 = .ok (.invokevirtual 49, 3) := by decide +kernel
theorem dL_areAlike_25 : decode cL_areAlike 25 = .ok (.if_icmp .ne 20, 3) := by decide +kernel
theorem dL_areAlike_28 : decode cL_areAlike 28 = .ok (.aload_n 0, 1) := by decide +kernel
theorem dL_areAlike_29 : decode cL_areAlike 29 = .ok (.iconst 0, 1) := by decide +kernel
theorem dL_areAlike_30 : decode cL_areAlike 30 = .ok (.invokevirtual 52, 3) := by decide +kernel
theorem dL_areAlike_33 : decode cL_areAlike 33 = .ok (.aload_n 1, 1) := by decide +kernel
theorem dL_areAlike_34 : decode cL_areAlike 34 = .ok (.iconst 0, 1) := by decide +kernel
theorem dL_areAlike_35 : decode cL_areAlike 35 = .ok (.invokevirtual 52, 3) := by decide +kernel
theorem dL_areAlike_38 : decode cL_areAlike 38 = .ok (.if_icmp .ne 7, 3) := by decide +kernel
theorem dL_areAlike_41 : decode cL_areAlike 41 = .ok (.iconst 1, 1) := by decide +kernel
theorem dL_areAlike_42 : decode cL_areAlike 42 = .ok (.goto 4, 3) := by decide +kernel
theorem dL_areAlike_45 : decode cL_areAlike 45 = .ok (.iconst 0, 1) := by decide +kernel
theorem dL_areAlike_46 : decode cL_areAlike 46 = .ok (.istore_n 2, 1) := by decide +kernel
theorem dL_areAlike_47 : decode cL_areAlike 47 = .ok (.iconst 0, 1) := by decide +kernel
theorem dL_areAlike_48 : decode cL_areAlike 48 = .ok (.istore_n 3, 1) := by decide +kernel
theorem dL_areAlike_49 : decode cL_areAlike 49 = .ok (.iload_n 3, 1) := by decide +kernel
theorem dL_areAlike_50 : decode cL_areAlike 50 = .ok (.bipush 15, 2) := by decide +kernel
theorem dL_areAlike_52 : decode cL_areAlike 52 = .ok (.if_icmp .ge 32, 3) := by decide +kernel
theorem dL_areAlike_55 : decode cL_areAlike 55 = .ok (.iload_n 2, 1) := by decide +kernel
theorem dL_areAlike_56 : decode cL_areAlike 56 = .ok (.ifCond .eq 20, 3) := by decide +kernel
theorem dL_areAlike_59 : decode cL_areAlike 59 = .ok (.aload_n 0, 1) := by decide +kernel
theorem dL_areAlike_60 : decode cL_areAlike 60 = .ok (.iload_n 3, 1) := by decide +kernel
theorem dL_areAlike_61 : decode cL_areAlike 61 = .ok (.invokevirtual 55, 3) := by decide +kernel
theorem dL_areAlike_64 : decode cL_areAlike 64 = .ok (.aload_n 1, 1) := by decide +kernel
theorem dL_areAlike_65 : decode cL_areAlike 65 = .ok (.iload_n 3, 1) := by decide +kernel
theorem dL_areAlike_66 : decode cL_areAlike 66 = .ok (.invokevirtual 55, 3) := by decide +kernel
theorem dL_areAlike_69 : decode cL_areAlike 69 = .ok (.if_icmp .ne 7, 3) := by decide +kernel
theorem dL_areAlike_72 : decode cL_areAlike 72 = .ok (.iconst 1, 1) := by decide +kernel
theorem dL_areAlike_73 : decode cL_areAlike 73 = .ok (.goto 4, 3) := by decide +kernel
theorem dL_areAlike_76 : decode cL_areAlike 76 = .ok (.iconst 0, 1) := by decide +kernel
theorem dL_areAlike_77 : decode cL_areAlike 77 = .ok (.istore_n 2, 1) := by decide +kernel
theorem dL_areAlike_78 : decode cL_areAlike 78 = .ok (.iinc 3 1, 3) := by decide +kernel
theorem dL_areAlike_81 : decode cL_areAlike 81 = .ok (.goto (-32), 3) := by decide +kernel
theorem dL_areAlike_84 : decode cL_areAlike 84 = .ok (.iconst 0, 1) := by decide +kernel
theorem dL_areAlike_85 : decode cL_areAlike 85 = .ok (.istore_n 3, 1) := by decide +kernel
theorem dL_areAlike_86 : decode cL_areAlike 86 = .ok (.iload_n 3, 1) := by decide +kernel
theorem dL_areAlike_87 : decode cL_areAlike 87 = .ok (.iconst 3, 1) := by decide +kernel
theorem dL_areAlike_88 : decode cL_areAlike 88 = .ok (.if_icmp .ge 77, 3) := by decide +kernel
theorem dL_areAlike_91 : decode cL_areAlike 91 = .ok (.iconst 0, 1) := by decide +kernel
theorem dL_areAlike_92 : decode cL_areAlike 92 = .ok (.istore 4, 2) := by decide +kernel
theorem dL_areAlike_94 : decode cL_areAlike 94 = .ok (.iload 4, 2) := by decide +kernel
theorem dL_areAlike_96 : decode cL_areAlike 96 = .ok (.bipush 10, 2) := by decide +kernel
theorem dL_areAlike_98 : decode cL_areAlike 98 = .ok (.if_icmp .ge 61, 3) := by decide +kernel
theorem dL_areAlike_101 : decode cL_areAlike 101 = .ok (.iload_n 2, 1) := by decide +kernel
theorem dL_areAlike_102 : decode cL_areAlike 102 = .ok (.ifCond .eq 49, 3) := by decide +kernel
theorem dL_areAlike_105 : decode cL_areAlike 105 = .ok (.aload_n 0, 1) := by decide +kernel
theorem dL_areAlike_106 : decode cL_areAlike 106 = .ok (.iload_n 3, 1) := by decide +kernel
theorem dL_areAlike_107 : decode cL_areAlike 107 = .ok (.iload 4, 2) := by decide +kernel
theorem dL_areAlike_109 : decode cL_areAlike 109 = .ok (.invokevirtual 27, 3) := by decide +kernel
theorem dL_areAlike_112 : decode cL_areAlike 112 = .ok (.aload_n 1, 1) := by decide +kernel
theorem dL_areAlike_113 : decode cL_areAlike 113 = .ok (.iload_n 3, 1) := by decide +kernel
theorem dL_areAlike_114 : decode cL_areAlike 114 = .ok (.iload 4, 2) := by decide +kernel
theorem dL_areAlike_116 : decode cL_areAlike 116 = .ok (.invokevirtual 27, 3) := by decide +kernel
theorem dL_areAlike_119 : decode cL_areAlike 119 = .ok (.if_icmp .ne 32, 3) := by decide +kernel
theorem dL_areAlike_122 : decode cL_areAlike 122 = .ok (.iload 4, 2) := by decide +kernel
theorem dL_areAlike_124 : decode cL_areAlike 124 = .ok (.iconst 3, 1) := by decide +kernel
theorem dL_areAlike_125 : decode cL_areAlike 125 = .ok (.if_icmp .gt 22, 3) := by decide +kernel
theorem dL_areAlike_128 : decode cL_areAlike 128 = .ok (.aload_n 0, 1) := by decide +kernel
theorem dL_areAlike_129 : decode cL_areAlike 129 = .ok (.iload_n 3, 1) := by decide +kernel
theorem dL_areAlike_130 : decode cL_areAlike 130 = .ok (.iload 4, 2) := by decide +kernel
theorem dL_areAlike_132 : decode cL_areAlike 132 = .ok (.invokevirtual 15, 3) := by decide +kernel
theorem dL_areAlike_135 : decode cL_areAlike 135 = .ok (.aload_n 1, 1) := by decide +kernel
theorem dL_areAlike_136 : decode cL_areAlike 136 = .ok (.iconst 2, 1) := by decide +kernel
theorem dL_areAlike_137 : decode cL_areAlike 137 = .ok (.iload_n 3, 1) := by decide +kernel
theorem dL_areAlike_138 : decode cL_areAlike 138 = .ok (.isub, 1) := by decide +kernel
theorem dL_areAlike_139 : decode cL_areAlike 139 = .ok (.iload 4, 2) := by decide +kernel
theorem dL_areAlike_141 : decode cL_areAlike 141 = .ok (.invokevirtual 15, 3) := by decide +kernel
theorem dL_areAlike_144 : decode cL_areAlike 144 = .ok (.if_icmp .ne 7, 3) := by decide +kernel
theorem dL_areAlike_147 : decode cL_areAlike 147 = .ok (.iconst 1, 1) := by decide +kernel
theorem dL_areAlike_148 : decode cL_areAlike 148 = .ok (.goto 4, 3) := by decide +kernel
theorem dL_areAlike_151 : decode cL_areAlike 151 = .ok (.iconst 0, 1) := by decide +kernel
theorem dL_areAlike_152 : decode cL_areAlike 152 = .ok (.istore_n 2, 1) := by decide +kernel
theorem dL_areAlike_153 : decode cL_areAlike 153 = .ok (.iinc 4 1, 3) := by decide +kernel
theorem dL_areAlike_156 : decode cL_areAlike 156 = .ok (.goto (-62), 3) := by decide +kernel
theorem dL_areAlike_159 : decode cL_areAlike 159 = .ok (.iinc 3 1, 3) := by decide +kernel
theorem dL_areAlike_162 : decode cL_areAlike 162 = .ok (.goto (-76), 3) := by decide +kernel
theorem dL_areAlike_165 : decode cL_areAlike 165 = .ok (.iconst 0, 1) := by decide +kernel
theorem dL_areAlike_166 : decode cL_areAlike 166 = .ok (.istore_n 3, 1) := by decide +kernel
theorem dL_areAlike_167 : decode cL_areAlike 167 = .ok (.iload_n 3, 1) := by decide +kernel
theorem dL_areAlike_168 : decode cL_areAlike 168 = .ok (.aload_n 0, 1) := by decide +kernel
theorem dL_areAlike_169 : decode cL_areAlike 169 = .ok (.bipush 6, 2) := by decide +kernel
theorem dL_areAlike_171 : decode cL_areAlike 171 = .ok (.invokevirtual 58, 3) := by decide +kernel
theorem dL_areAlike_174 : decode cL_areAlike 174 = .ok (.if_icmp .ge 64, 3) := by decide +kernel
theorem dL_areAlike_177 : decode cL_areAlike 177 = .ok (.iload_n 2, 1) := by decide +kernel
theorem dL_areAlike_178 : decode cL_areAlike 178 = .ok (.ifCond .eq 52, 3) := by decide +kernel
theorem dL_areAlike_181 : decode cL_areAlike 181 = .ok (.aload_n 0, 1) := by decide +kernel
theorem dL_areAlike_182 : decode cL_areAlike 182 = .ok (.iload_n 3, 1) := by decide +kernel
theorem dL_areAlike_183 : decode cL_areAlike 183 = .ok (.iconst 0, 1) := by decide +kernel
theorem dL_areAlike_184 : decode cL_areAlike 184 = .ok (.invokevirtual 61, 3) := by decide +kernel
theorem dL_areAlike_187 : decode cL_areAlike 187 = .ok (.aload_n 1, 1) := by decide +kernel
theorem dL_areAlike_188 : decode cL_areAlike 188 = .ok (.iload_n 3, 1) := by decide +kernel
theorem dL_areAlike_189 : decode cL_areAlike 189 = .ok (.iconst 0, 1) := by decide +kernel
theorem dL_areAlike_190 : decode cL_areAlike 190 = .ok (.invokevirtual 61, 3) := by decide +kernel
theorem dL_areAlike_193 : decode cL_areAlike 193 = .ok (.if_icmp .ne 37, 3) := by decide +kernel
theorem dL_areAlike_196 : decode cL_areAlike 196 = .ok (.aload_n 0, 1) := by decide +kernel
theorem dL_areAlike_197 : decode cL_areAlike 197 = .ok (.iload_n 3, 1) := by decide +kernel
theorem dL_areAlike_198 : decode cL_areAlike 198 = .ok (.iconst 1, 1) := by decide +kernel
theorem dL_areAlike_199 : decode cL_areAlike 199 = .ok (.invokevirtual 61, 3) := by decide +kernel
theorem dL_areAlike_202 : decode cL_areAlike 202 = .ok (.aload_n 1, 1) := by decide +kernel
theorem dL_areAlike_203 : decode cL_areAlike 203 = .ok (.iload_n 3, 1) := by decide +kernel
theorem dL_areAlike_204 : decode cL_areAlike 204 = .ok (.iconst 1, 1) := by decide +kernel
theorem dL_areAlike_205 : decode cL_areAlike 205 = .ok (.invokevirtual 61, 3) := by decide +kernel
theorem dL_areAlike_208 : decode cL_areAlike 208 = .ok (.if_icmp .ne 22, 3) := by decide +kernel
theorem dL_areAlike_211 : decode cL_areAlike 211 = .ok (.aload_n 0, 1) := by decide +kernel
theorem dL_areAlike_212 : decode cL_areAlike 212 = .ok (.iload_n 3, 1) := by decide +kernel
theorem dL_areAlike_213 : decode cL_areAlike 213 = .ok (.iconst 2, 1) := by decide +kernel
theorem dL_areAlike_214 : decode cL_areAlike 214 = .ok (.invokevirtual 61, 3) := by decide +kernel
theorem dL_areAlike_217 : decode cL_areAlike 217 = .ok (.aload_n 1, 1) := by decide +kernel
theorem dL_areAlike_218 : decode cL_areAlike 218 = .ok (.iload_n 3, 1) := by decide +kernel
theorem dL_areAlike_219 : decode cL_areAlike 219 = .ok (.iconst 2, 1) := by decide +kernel
theorem dL_areAlike_220 : decode cL_areAlike 220 = .ok (.invokevirtual 61, 3) := by decide +kernel
theorem dL_areAlike_223 : decode cL_areAlike 223 = .ok (.if_icmp .ne 7, 3) := by decide +kernel
theorem dL_areAlike_226 : decode cL_areAlike 226 = .ok (.iconst 1, 1) := by decide +kernel
theorem dL_areAlike_227 : decode cL_areAlike 227 = .ok (.goto 4, 3) := by decide +kernel
theorem dL_areAlike_230 : decode cL_areAlike 230 = .ok (.iconst 0, 1) := by decide +kernel
theorem dL_areAlike_231 : decode cL_areAlike 231 = .ok (.istore_n 2, 1) := by decide +kernel
theorem dL_areAlike_232 : decode cL_areAlike 232 = .ok (.iinc 3 1, 3) := by decide +kernel
theorem dL_areAlike_235 : decode cL_areAlike 235 = .ok (.goto (-68), 3) := by decide +kernel
theorem dL_areAlike_238 : decode cL_areAlike 238 = .ok (.iload_n 2, 1) := by decide +kernel
theorem dL_areAlike_239 : decode cL_areAlike 239 = .ok (.ireturn, 1) := by decide +kernel
theorem dL_isSound_0 : decode cL_isSound 0 = .ok (.iconst 0, 1) := by decide +kernel
theorem dL_isSound_1 : decode cL_isSound 1 = .ok (.istore_n 1, 1) := by decide +kernel
theorem dL_isSound_2 : decode cL_isSound 2 = .ok (.iconst 0, 1) := by decide +kernel
theorem dL_isSound_3 : decode cL_isSound 3 = .ok (.istore_n 2, 1) := by decide +kernel
theorem dL_isSound_4 : decode cL_isSound 4 = .ok (.aload_n 0, 1) := by decide +kernel
theorem dL_isSound_5 : decode cL_isSound 5 = .ok (.iconst 4, 1) := by decide +kernel
theorem dL_isSound_6 : decode cL_isSound 6 = .ok (.invokevirtual 55, 3) := by decide +kernel
theorem dL_isSound_9 : decode cL_isSound 9 = .ok (.istore_n 3, 1) := by decide +kernel
theorem dL_isSound_10 : decode cL_isSound 10 = .ok (.aload_n 0, 1) := by decide +kernel
theorem dL_isSound_11 : decode cL_isSound 11 = .ok (.iconst 0, 1) := by decide +kernel
theorem dL_isSound_12 : decode cL_isSound 12 = .ok (.invokevirtual 55, 3) := by decide +kernel
theorem dL_isSound_15 : decode cL_isSound 15 = .ok (.ifCond .lt 62, 3) := by decide +kernel
theorem dL_isSound_18 : decode cL_isSound 18 = .ok (.aload_n 0, 1) := by decide +kernel
theorem dL_isSound_19 : decode cL_isSound 19 = .ok (.iconst 0, 1) := by decide +kernel
theorem dL_isSound_20 : decode cL_isSound 20 = .ok (.invokevirtual 55, 3) := by decide +kernel
theorem dL_isSound_23 : decode cL_isSound 23 = .ok (.sipush 2000, 3) := by decide +kernel
theorem dL_isSound_26 : decode cL_isSound 26 = .ok (.if_icmp .gt 51, 3) := by decide +kernel
theorem dL_isSound_29 : decode cL_isSound 29 = .ok (.aload_n 0, 1) := by decide +kernel
theorem dL_isSound_30 : decode cL_isSound 30 = .ok (.iconst 1, 1) := by decide +kernel
theorem dL_isSound_31 : decode cL_isSound 31 = .ok (.invokevirtual 55, 3) := by decide +kernel
theorem dL_isSound_34 : decode cL_isSound 34 = .ok (.ifCond .lt 43, 3) := by decide +kernel
theorem dL_isSound_37 : decode cL_isSound 37 = .ok (.aload_n 0, 1) := by decide +kernel
theorem dL_isSound_38 : decode cL_isSound 38 = .ok (.iconst 1, 1) := by decide +kernel
theorem dL_isSound_39 : decode cL_isSound 39 = .ok (.invokevirtual 55, 3) := by decide +kernel
theorem dL_isSound_42 : decode cL_isSound 42 = .ok (.sipush 20000, 3) := by decide +kernel
theorem dL_isSound_45 : decode cL_isSound 45 = .ok (.if_icmp .gt 32, 3) := by decide +kernel
theorem dL_isSound_48 : decode cL_isSound 48 = .ok (.iload_n 3, 1) := by decide +kernel
theorem dL_isSound_49 : decode cL_isSound 49 = .ok (.ifCond .lt 24, 3) := by decide +kernel
theorem dL_isSound_52 : decode cL_isSound 52 = .ok (.aload_n 0, 1) := by decide +kernel
theorem dL_isSound_53 : decode cL_isSound 53 = .ok (.iload_n 3, 1) := by decide +kernel
theorem dL_isSound_54 : decode cL_isSound 54 = .ok (.iconst 0, 1) := by decide +kernel
theorem dL_isSound_55 : decode cL_isSound 55 = .ok (.invokevirtual 27, 3) := by decide +kernel
theorem dL_isSound_58 : decode cL_isSound 58 = .ok (.ifCond .le 19, 3) := by decide +kernel
theorem dL_isSound_61 : decode cL_isSound 61 = .ok (.aload_n 0, 1) := by decide +kernel
theorem dL_isSound_62 : decode cL_isSound 62 = .ok (.iload_n 3, 1) := by decide +kernel
theorem dL_isSound_63 : decode cL_isSound 63 = .ok (.iconst 4, 1) := by decide +kernel
theorem dL_isSound_64 : decode cL_isSound 64 = .ok (.invokevirtual 27, 3) := by decide +kernel
theorem dL_isSound_67 : decode cL_isSound 67 = .ok (.sipush 300, 3) := by decide +kernel
theorem dL_isSound_70 : decode cL_isSound 70 = .ok (.if_icmp .lt 7, 3) := by decide +kernel
theorem dL_isSound_73 : decode cL_isSound 73 = .ok (.iconst 1, 1) := by decide +kernel
theorem dL_isSound_74 : decode cL_isSound 74 = .ok (.goto 4, 3) := by decide +kernel
theorem dL_isSound_77 : decode cL_isSound 77 = .ok (.iconst 0, 1) := by decide +kernel
theorem dL_isSound_78 : decode cL_isSound 78 = .ok (.istore 4, 2) := by decide +kernel
theorem dL_isSound_80 : decode cL_isSound 80 = .ok (.iconst 0, 1) := by decide +kernel
theorem dL_isSound_81 : decode cL_isSound 81 = .ok (.istore 5, 2) := by decide +kernel
theorem dL_isSound_83 : decode cL_isSound 83 = .ok (.iload 5, 2) := by decide +kernel
theorem dL_isSound_85 : decode cL_isSound 85 = .ok (.iconst 3, 1) := by decide +kernel
theorem dL_isSound_86 : decode cL_isSound 86 = .ok (.if_icmp .ge 142, 3) := by decide +kernel
theorem dL_isSound_89 : decode cL_isSound 89 = .ok (.aload_n 0, 1) := by decide +kernel
theorem dL_isSound_90 : decode cL_isSound 90 = .ok (.iload 5, 2) := by decide +kernel
theorem dL_isSound_92 : decode cL_isSound 92 = .ok (.iconst 4, 1) := by decide +kernel
theorem dL_isSound_93 : decode cL_isSound 93 = .ok (.invokevirtual 27, 3) := by decide +kernel
theorem dL_isSound_96 : decode cL_isSound 96 = .ok (.istore 6, 2) := by decide +kernel
theorem dL_isSound_98 : decode cL_isSound 98 = .ok (.iload_n 1, 1) := by decide +kernel
theorem dL_isSound_99 : decode cL_isSound 99 = .ok (.iload 6, 2) := by decide +kernel
theorem dL_isSound_101 : decode cL_isSound 101 = .ok (.ifCond .le 7, 3) := by decide +kernel
theorem dL_isSound_104 : decode cL_isSound 104 = .ok (.iconst 1, 1) := by decide +kernel
theorem dL_isSound_105 : decode cL_isSound 105 = .ok (.goto 4, 3) := by decide +kernel
theorem dL_isSound_108 : decode cL_isSound 108 = .ok (.iconst 0, 1) := by decide +kernel
theorem dL_isSound_109 : decode cL_isSound 109 = .ok (.iadd, 1) := by decide +kernel
theorem dL_isSound_110 : decode cL_isSound 110 = .ok (.istore_n 1, 1) := by decide +kernel
theorem dL_isSound_111 : decode cL_isSound 111 = .ok (.iload_n 2, 1) := by decide +kernel
theorem dL_isSound_112 : decode cL_isSound 112 = .ok (.iload 6, 2) := by decide +kernel
theorem dL_isSound_114 : decode cL_isSound 114 = .ok (.ifCond .ne 18, 3) := by decide +kernel
theorem dL_isSound_117 : decode cL_isSound 117 = .ok (.aload_n 0, 1) := by decide +kernel
theorem dL_isSound_118 : decode cL_isSound 118 = .ok (.iload 5, 2) := by decide +kernel
theorem dL_isSound_120 : decode cL_isSound 120 = .ok (.iconst 3, 1) := by decide +kernel
theorem dL_isSound_121 : decode cL_isSound 121 = .ok (.invokevirtual 27, 3) := by decide +kernel
theorem dL_isSound_124 : decode cL_isSound 124 = .ok (.iconst 1, 1) := by decide +kernel
theorem dL_isSound_125 : decode cL_isSound 125 = .ok (.if_icmp .ne 7, 3) := by decide +kernel
theorem dL_isSound_128 : decode cL_isSound 128 = .ok (.iconst 1, 1) := by decide +kernel
theorem dL_isSound_129 : decode cL_isSound 129 = .ok (.goto 4, 3) := by decide +kernel
theorem dL_isSound_132 : decode cL_isSound 132 = .ok (.iconst 0, 1) := by decide +kernel
theorem dL_isSound_133 : decode cL_isSound 133 = .ok (.iadd, 1) := by decide +kernel
theorem dL_isSound_134 : decode cL_isSound 134 = .ok (.istore_n 2, 1) := by decide +kernel
theorem dL_isSound_135 : decode cL_isSound 135 = .ok (.iload 4, 2) := by decide +kernel
theorem dL_isSound_137 : decode cL_isSound 137 = .ok (.ifCond .eq 82, 3) := by decide +kernel
theorem dL_isSound_140 : decode cL_isSound 140 = .ok (.iload 6, 2) := by decide +kernel
theorem dL_isSound_142 : decode cL_isSound 142 = .ok (.ifCond .eq 14, 3) := by decide +kernel
theorem dL_isSound_145 : decode cL_isSound 145 = .ok (.aload_n 0, 1) := by decide +kernel
theorem dL_isSound_146 : decode cL_isSound 146 = .ok (.iload 5, 2) := by decide +kernel
theorem dL_isSound_148 : decode cL_isSound 148 = .ok (.iconst 3, 1) := by decide +kernel
theorem dL_isSound_149 : decode cL_isSound 149 = .ok (.invokevirtual 27, 3) := by decide +kernel
theorem dL_isSound_152 : decode cL_isSound 152 = .ok (.iconst 1, 1) := by decide +kernel
theorem dL_isSound_153 : decode cL_isSound 153 = .ok (.if_icmp .ne 66, 3) := by decide +kernel
theorem dL_isSound_156 : decode cL_isSound 156 = .ok (.iload 6, 2) := by decide +kernel
theorem dL_isSound_158 : decode cL_isSound 158 = .ok (.ifCond .eq 17, 3) := by decide +kernel
theorem dL_isSound_161 : decode cL_isSound 161 = .ok (.iload 6, 2) := by decide +kernel
theorem dL_isSound_163 : decode cL_isSound 163 = .ok (.sipush 1000, 3) := by decide +kernel
theorem dL_isSound_166 : decode cL_isSound 166 = .ok (.if_icmp .eq 9, 3) := by decide +kernel
theorem dL_isSound_169 : decode cL_isSound 169 = .ok (.iload 5, 2) := by decide +kernel
theorem dL_isSound_171 : decode cL_isSound 171 = .ok (.iload_n 3, 1) := by decide +kernel
theorem dL_isSound_172 : decode cL_isSound 172 = .ok (.if_icmp .ne 47, 3) := by decide +kernel
theorem dL_isSound_175 : decode cL_isSound 175 = .ok (.aload_n 0, 1) := by decide +kernel
theorem dL_isSound_176 : decode cL_isSound 176 = .ok (.iload 5, 2) := by decide +kernel
theorem dL_isSound_178 : decode cL_isSound 178 = .ok (.iconst 5, 1) := by decide +kernel
theorem dL_isSound_179 : decode cL_isSound 179 = .ok (.invokevirtual 27, 3) := by decide +kernel
theorem dL_isSound_182 : decode cL_isSound 182 = .ok (.iload 5, 2) := by decide +kernel
theorem dL_isSound_184 : decode cL_isSound 184 = .ok (.iload_n 3, 1) := by decide +kernel
theorem dL_isSound_185 : decode cL_isSound 185 = .ok (.if_icmp .ne 7, 3) := by decide +kernel
theorem dL_isSound_188 : decode cL_isSound 188 = .ok (.iconst 1, 1) := by decide +kernel
theorem dL_isSound_189 : decode cL_isSound 189 = .ok (.goto 4, 3) := by decide +kernel
theorem dL_isSound_192 : decode cL_isSound 192 = .ok (.iconst 0, 1) := by decide +kernel
theorem dL_isSound_193 : decode cL_isSound 193 = .ok (.if_icmp .ne 26, 3) := by decide +kernel
theorem dL_isSound_196 : decode cL_isSound 196 = .ok (.aload_n 0, 1) := by decide +kernel
theorem dL_isSound_197 : decode cL_isSound 197 = .ok (.iload 5, 2) := by decide +kernel
theorem dL_isSound_199 : decode cL_isSound 199 = .ok (.bipush 7, 2) := by decide +kernel
theorem dL_isSound_201 : decode cL_isSound 201 = .ok (.invokevirtual 27, 3) := by decide +kernel
theorem dL_isSound_204 : decode cL_isSound 204 = .ok (.aload_n 0, 1) := by decide +kernel
theorem dL_isSound_205 : decode cL_isSound 205 = .ok (.iload 5, 2) := by decide +kernel
theorem dL_isSound_207 : decode cL_isSound 207 = .ok (.bipush 6, 2) := by decide +kernel
theorem dL_isSound_209 : decode cL_isSound 209 = .ok (.invokevirtual 27, 3) := by decide +kernel
theorem dL_isSound_212 : decode cL_isSound 212 = .ok (.if_icmp .gt 7, 3) := by decide +kernel
theorem dL_isSound_215 : decode cL_isSound 215 = .ok (.iconst 1, 1) := by decide +kernel
theorem dL_isSound_216 : decode cL_isSound 216 = .ok (.goto 4, 3) := by decide +kernel
theorem dL_isSound_219 : decode cL_isSound 219 = .ok (.iconst 0, 1) := by decide +kernel
theorem dL_isSound_220 : decode cL_isSound 220 = .ok (.istore 4, 2) := by decide +kernel
theorem dL_isSound_222 : decode cL_isSound 222 = .ok (.iinc 5 1, 3) := by decide +kernel
theorem dL_isSound_225 : decode cL_isSound 225 = .ok (.goto (-142), 3) := by decide +kernel
theorem dL_isSound_228 : decode cL_isSound 228 = .ok (.iload 4, 2) := by decide +kernel
theorem dL_isSound_230 : decode cL_isSound 230 = .ok (.ifCond .eq 66, 3) := by decide +kernel
theorem dL_isSound_233 : decode cL_isSound 233 = .ok (.aload_n 0, 1) := by decide +kernel
theorem dL_isSound_234 : decode cL_isSound 234 = .ok (.iconst 5, 1) := by decide +kernel
theorem dL_isSound_235 : decode cL_isSound 235 = .ok (.invokevirtual 55, 3) := by decide +kernel
theorem dL_isSound_238 : decode cL_isSound 238 = .ok (.iload_n 1, 1) := by decide +kernel
theorem dL_isSound_239 : decode cL_isSound 239 = .ok (.if_icmp .ne 57, 3) := by decide +kernel
theorem dL_isSound_242 : decode cL_isSound 242 = .ok (.aload_n 0, 1) := by decide +kernel
theorem dL_isSound_243 : decode cL_isSound 243 = .ok (.iconst 4, 1) := by decide +kernel
theorem dL_isSound_244 : decode cL_isSound 244 = .ok (.invokevirtual 58, 3) := by decide +kernel
theorem dL_isSound_247 : decode cL_isSound 247 = .ok (.iload_n 2, 1) := by decide +kernel
theorem dL_isSound_248 : decode cL_isSound 248 = .ok (.if_icmp .ne 48, 3) := by decide +kernel
theorem dL_isSound_251 : decode cL_isSound 251 = .ok (.aload_n 0, 1) := by decide +kernel
theorem dL_isSound_252 : decode cL_isSound 252 = .ok (.bipush 6, 2) := by decide +kernel
theorem dL_isSound_254 : decode cL_isSound 254 = .ok (.invokevirtual 55, 3) := by decide +kernel
theorem dL_isSound_257 : decode cL_isSound 257 = .ok (.ifCond .eq 7, 3) := by decide +kernel
theorem dL_isSound_260 : decode cL_isSound 260 = .ok (.iload_n 1, 1) := by decide +kernel
theorem dL_isSound_261 : decode cL_isSound 261 = .ok (.ifCond .ne 35, 3) := by decide +kernel
theorem dL_isSound_264 : decode cL_isSound 264 = .ok (.aload_n 0, 1) := by decide +kernel
theorem dL_isSound_265 : decode cL_isSound 265 = .ok (.iconst 0, 1) := by decide +kernel
theorem dL_isSound_266 : decode cL_isSound 266 = .ok (.iconst 2, 1) := by decide +kernel
theorem dL_isSound_267 : decode cL_isSound 267 = .ok (.invokevirtual 15, 3) := by decide +kernel
theorem dL_isSound_270 : decode cL_isSound 270 = .ok (.aload_n 0, 1) := by decide +kernel
theorem dL_isSound_271 : decode cL_isSound 271 = .ok (.iconst 1, 1) := by decide +kernel
theorem dL_isSound_272 : decode cL_isSound 272 = .ok (.iconst 2, 1) := by decide +kernel
theorem dL_isSound_273 : decode cL_isSound 273 = .ok (.invokevirtual 15, 3) := by decide +kernel
theorem dL_isSound_276 : decode cL_isSound 276 = .ok (.iadd, 1) := by decide +kernel
theorem dL_isSound_277 : decode cL_isSound 277 = .ok (.aload_n 0, 1) := by decide +kernel
theorem dL_isSound_278 : decode cL_isSound 278 = .ok (.iconst 2, 1) := by decide +kernel
theorem dL_isSound_279 : decode cL_isSound 279 = .ok (.iconst 2, 1) := by decide +kernel
theorem dL_isSound_280 : decode cL_isSound 280 = .ok (.invokevirtual 15, 3) := by decide +kernel
theorem dL_isSound_283 : decode cL_isSound 283 = .ok (.iadd, 1) := by decide +kernel
theorem dL_isSound_284 : decode cL_isSound 284 = .ok (.aload_n 0, 1) := by decide +kernel
theorem dL_isSound_285 : decode cL_isSound 285 = .ok (.iconst 3, 1) := by decide +kernel
theorem dL_isSound_286 : decode cL_isSound 286 = .ok (.invokevirtual 55, 3) := by decide +kernel
theorem dL_isSound_289 : decode cL_isSound 289 = .ok (.if_icmp .gt 7, 3) := by decide +kernel
theorem dL_isSound_292 : decode cL_isSound 292 = .ok (.iconst 1, 1) := by decide +kernel
theorem dL_isSound_293 : decode cL_isSound 293 = .ok (.goto 4, 3) := by decide +kernel
theorem dL_isSound_296 : decode cL_isSound 296 = .ok (.iconst 0, 1) := by decide +kernel
theorem dL_isSound_297 : decode cL_isSound 297 = .ok (.ireturn, 1) := by decide +kernel
theorem dL_isMinute_0 : decode cL_isMinute 0 = .ok (.aload_n 0, 1) := by decide +kernel
theorem dL_isMinute_1 : decode cL_isMinute 1 = .ok (.iconst 1, 1) := by decide +kernel
theorem dL_isMinute_2 : decode cL_isMinute 2 = .ok (.invokevirtual 55, 3) := by decide +kernel
theorem dL_isMinute_5 : decode cL_isMinute 5 = .ok (.istore_n 1, 1) := by decide +kernel
theorem dL_isMinute_6 : decode cL_isMinute 6 = .ok (.aload_n 0, 1) := by decide +kernel
theorem dL_isMinute_7 : decode cL_isMinute 7 = .ok (.bipush 14, 2) := by decide +kernel
theorem dL_isMinute_9 : decode cL_isMinute 9 = .ok (.invokevirtual 55, 3) := by decide +kernel
theorem dL_isMinute_12 : decode cL_isMinute 12 = .ok (.istore_n 2, 1) := by decide +kernel
theorem dL_isMinute_13 : decode cL_isMinute 13 = .ok (.aload_n 0, 1) := by decide +kernel
theorem dL_isMinute_14 : decode cL_isMinute 14 = .ok (.iconst 0, 1) := by decide +kernel
theorem dL_isMinute_15 : decode cL_isMinute 15 = .ok (.invokevirtual 55, 3) := by decide +kernel
theorem dL_isMinute_18 : decode cL_isMinute 18 = .ok (.istore_n 3, 1) := by decide +kernel
theorem dL_isMinute_19 : decode cL_isMinute 19 = .ok (.aload_n 0, 1) := by decide +kernel
theorem dL_isMinute_20 : decode cL_isMinute 20 = .ok (.iconst 1, 1) := by decide +kernel
theorem dL_isMinute_21 : decode cL_isMinute 21 = .ok (.iconst 0, 1) := by decide +kernel
theorem dL_isMinute_22 : decode cL_isMinute 22 = .ok (.invokevirtual 49, 3) := by decide +kernel
theorem dL_isMinute_25 : decode cL_isMinute 25 = .ok (.istore 4, 2) := by decide +kernel
theorem dL_isMinute_27 : decode cL_isMinute 27 = .ok (.aload_n 0, 1) := by decide +kernel
theorem dL_isMinute_28 : decode cL_isMinute 28 = .ok (.iconst 1, 1) := by decide +kernel
theorem dL_isMinute_29 : decode cL_isMinute 29 = .ok (.invokevirtual 43, 3) := by decide +kernel
theorem dL_isMinute_32 : decode cL_isMinute 32 = .ok (.ifCond .le 33, 3) := by decide +kernel
theorem dL_isMinute_35 : decode cL_isMinute 35 = .ok (.aload_n 0, 1) := by decide +kernel
theorem dL_isMinute_36 : decode cL_isMinute 36 = .ok (.bipush 14, 2) := by decide +kernel
theorem dL_isMinute_38 : decode cL_isMinute 38 = .ok (.invokevirtual 55, 3) := by decide +kernel
theorem dL_isMinute_41 : decode cL_isMinute 41 = .ok (.iload_n 2, 1) := by decide +kernel
theorem dL_isMinute_42 : decode cL_isMinute 42 = .ok (.aload_n 0, 1) := by decide +kernel
theorem dL_isMinute_43 : decode cL_isMinute 43 = .ok (.iconst 2, 1) := by decide +kernel
theorem dL_isMinute_44 : decode cL_isMinute 44 = .ok (.invokevirtual 55, 3) := by decide +kernel
theorem dL_isMinute_47 : decode cL_isMinute 47 = .ok (.iadd, 1) := by decide +kernel
theorem dL_isMinute_48 : decode cL_isMinute 48 = .ok (.if_icmp .ne 17, 3) := by decide +kernel
theorem dL_isMinute_51 : decode cL_isMinute 51 = .ok (.aload_n 0, 1) := by decide +kernel
theorem dL_isMinute_52 : decode cL_isMinute 52 = .ok (.iconst 0, 1) := by decide +kernel
theorem dL_isMinute_53 : decode cL_isMinute 53 = .ok (.invokevirtual 55, 3) := by decide +kernel
theorem dL_isMinute_56 : decode cL_isMinute 56 = .ok (.iload 4, 2) := by decide +kernel
theorem dL_isMinute_58 : decode cL_isMinute 58 = .ok (.if_icmp .ne 7, 3) := by decide +kernel
theorem dL_isMinute_61 : decode cL_isMinute 61 = .ok (.iconst 1, 1) := by decide +kernel
theorem dL_isMinute_62 : decode cL_isMinute 62 = .ok (.goto 4, 3) := by decide +kernel
theorem dL_isMinute_65 : decode cL_isMinute 65 = .ok (.iconst 0, 1) := by decide +kernel
theorem dL_isMinute_66 : decode cL_isMinute 66 = .ok (.istore 5, 2) := by decide +kernel
theorem dL_isMinute_68 : decode cL_isMinute 68 = .ok (.iload_n 1, 1) := by decide +kernel
theorem dL_isMinute_69 : decode cL_isMinute 69 = .ok (.aload_n 0, 1) := by decide +kernel
theorem dL_isMinute_70 : decode cL_isMinute 70 = .ok (.iconst 2, 1) := by decide +kernel
theorem dL_isMinute_71 : decode cL_isMinute 71 = .ok (.invokevirtual 55, 3) := by decide +kernel
theorem dL_isMinute_74 : decode cL_isMinute 74 = .ok (.isub, 1) := by decide +kernel
theorem dL_isMinute_75 : decode cL_isMinute 75 = .ok (.aload_n 0, 1) := by decide +kernel
theorem dL_isMinute_76 : decode cL_isMinute 76 = .ok (.bipush 34, 2) := by decide +kernel
theorem dL_isMinute_78 : decode cL_isMinute 78 = .ok (.invokevirtual 58, 3) := by decide +kernel
theorem dL_isMinute_81 : decode cL_isMinute 81 = .ok (.iadd, 1) := by decide +kernel
theorem dL_isMinute_82 : decode cL_isMinute 82 = .ok (.istore 6, 2) := by decide +kernel
theorem dL_isMinute_84 : decode cL_isMinute 84 = .ok (.iload 5, 2) := by decide +kernel
theorem dL_isMinute_86 : decode cL_isMinute 86 = .ok (.ifCond .eq 31, 3) := by decide +kernel
theorem dL_isMinute_89 : decode cL_isMinute 89 = .ok (.aload_n 0, 1) := by decide +kernel
theorem dL_isMinute_90 : decode cL_isMinute 90 = .ok (.iconst 1, 1) := by decide +kernel
theorem dL_isMinute_91 : decode cL_isMinute 91 = .ok (.invokevirtual 55, 3) := by decide +kernel
theorem dL_isMinute_94 : decode cL_isMinute 94 = .ok (.iload 6, 2) := by decide +kernel
theorem dL_isMinute_96 : decode cL_isMinute 96 = .ok (.sipush 20000, 3) := by decide +kernel
theorem dL_isMinute_99 : decode cL_isMinute 99 = .ok (.if_icmp .le 9, 3) := by decide +kernel
theorem dL_isMinute_102 : decode cL_isMinute 102 = .ok (.sipush 20000, 3) := by decide +kernel
theorem dL_isMinute_105 : decode cL_isMinute 105 = .ok (.goto 5, 3) := by decide +kernel
theorem dL_isMinute_108 : decode cL_isMinute 108 = .ok (.iload 6, 2) := by decide +kernel
theorem dL_isMinute_110 : decode cL_isMinute 110 = .ok (.if_icmp .ne 7, 3) := by decide +kernel
theorem dL_isMinute_113 : decode cL_isMinute 113 = .ok (.iconst 1, 1) := by decide +kernel
theorem dL_isMinute_114 : decode cL_isMinute 114 = .ok (.goto 4, 3) := by decide +kernel
theorem dL_isMinute_117 : decode cL_isMinute 117 = .ok (.iconst 0, 1) := by decide +kernel
theorem dL_isMinute_118 : decode cL_isMinute 118 = .ok (.istore 5, 2) := by decide +kernel
theorem dL_isMinute_120 : decode cL_isMinute 120 = .ok (.iload 5, 2) := by decide +kernel
theorem dL_isMinute_122 : decode cL_isMinute 122 = .ok (.ifCond .eq 42, 3) := by decide +kernel
theorem dL_isMinute_125 : decode cL_isMinute 125 = .ok (.aload_n 0, 1) := by decide +kernel
theorem dL_isMinute_126 : decode cL_isMinute 126 = .ok (.invokevirtual 64, 3) := by decide +kernel
theorem dL_isMinute_129 : decode cL_isMinute 129 = .ok (.ifCond .lt 35, 3) := by decide +kernel
theorem dL_isMinute_132 : decode cL_isMinute 132 = .ok (.aload_n 0, 1) := by decide +kernel
theorem dL_isMinute_133 : decode cL_isMinute 133 = .ok (.iconst 1, 1) := by decide +kernel
theorem dL_isMinute_134 : decode cL_isMinute 134 = .ok (.invokevirtual 55, 3) := by decide +kernel
theorem dL_isMinute_137 : decode cL_isMinute 137 = .ok (.iload_n 1, 1) := by decide +kernel
theorem dL_isMinute_138 : decode cL_isMinute 138 = .ok (.if_icmp .ne 26, 3) := by decide +kernel
theorem dL_isMinute_141 : decode cL_isMinute 141 = .ok (.aload_n 0, 1) := by decide +kernel
theorem dL_isMinute_142 : decode cL_isMinute 142 = .ok (.iconst 0, 1) := by decide +kernel
theorem dL_isMinute_143 : decode cL_isMinute 143 = .ok (.invokevirtual 55, 3) := by decide +kernel
theorem dL_isMinute_146 : decode cL_isMinute 146 = .ok (.iload_n 3, 1) := by decide +kernel
theorem dL_isMinute_147 : decode cL_isMinute 147 = .ok (.if_icmp .ne 17, 3) := by decide +kernel
theorem dL_isMinute_150 : decode cL_isMinute 150 = .ok (.aload_n 0, 1) := by decide +kernel
theorem dL_isMinute_151 : decode cL_isMinute 151 = .ok (.bipush 14, 2) := by decide +kernel
theorem dL_isMinute_153 : decode cL_isMinute 153 = .ok (.invokevirtual 55, 3) := by decide +kernel
theorem dL_isMinute_156 : decode cL_isMinute 156 = .ok (.iload_n 2, 1) := by decide +kernel
theorem dL_isMinute_157 : decode cL_isMinute 157 = .ok (.if_icmp .ne 7, 3) := by decide +kernel
theorem dL_isMinute_160 : decode cL_isMinute 160 = .ok (.iconst 1, 1) := by decide +kernel
theorem dL_isMinute_161 : decode cL_isMinute 161 = .ok (.goto 4, 3) := by decide +kernel
theorem dL_isMinute_164 : decode cL_isMinute 164 = .ok (.iconst 0, 1) := by decide +kernel
theorem dL_isMinute_165 : decode cL_isMinute 165 = .ok (.ireturn, 1) := by decide +kernel
theorem dL_law_0 : decode cL_law 0 = .ok (.new 16, 3) := by decide +kernel
theorem dL_law_3 : decode cL_law 3 = .ok (.dup, 1) := by decide +kernel
theorem dL_law_4 : decode cL_law 4 = .ok (.invokespecial 67, 3) := by decide +kernel
theorem dL_law_7 : decode cL_law 7 = .ok (.astore_n 1, 1) := by decide +kernel
theorem dL_law_8 : decode cL_law 8 = .ok (.new 16, 3) := by decide +kernel
theorem dL_law_11 : decode cL_law 11 = .ok (.dup, 1) := by decide +kernel
theorem dL_law_12 : decode cL_law 12 = .ok (.invokespecial 67, 3) := by decide +kernel
theorem dL_law_15 : decode cL_law 15 = .ok (.astore_n 2, 1) := by decide +kernel
theorem dL_law_16 : decode cL_law 16 = .ok (.iconst 1, 1) := by decide +kernel
theorem dL_law_17 : decode cL_law 17 = .ok (.istore_n 3, 1) := by decide +kernel
theorem dL_law_18 : decode cL_law 18 = .ok (.iconst 0, 1) := by decide +kernel
theorem dL_law_19 : decode cL_law 19 = .ok (.istore 4, 2) := by decide +kernel
theorem dL_law_21 : decode cL_law 21 = .ok (.iload 4, 2) := by decide +kernel
theorem dL_law_23 : decode cL_law 23 = .ok (.iconst 3, 1) := by decide +kernel
theorem dL_law_24 : decode cL_law 24 = .ok (.if_icmp .ge 163, 3) := by decide +kernel
theorem dL_law_27 : decode cL_law 27 = .ok (.aload_n 0, 1) := by decide +kernel
theorem dL_law_28 : decode cL_law 28 = .ok (.iload 4, 2) := by decide +kernel
theorem dL_law_30 : decode cL_law 30 = .ok (.invokestatic 68, 3) := by decide +kernel
theorem dL_law_33 : decode cL_law 33 = .ok (.istore 5, 2) := by decide +kernel
theorem dL_law_35 : decode cL_law 35 = .ok (.iload 5, 2) := by decide +kernel
theorem dL_law_37 : decode cL_law 37 = .ok (.iconst 3, 1) := by decide +kernel
theorem dL_law_38 : decode cL_law 38 = .ok (.invokestatic 9, 3) := by decide +kernel
theorem dL_law_41 : decode cL_law 41 = .ok (.istore 6, 2) := by decide +kernel
theorem dL_law_43 : decode cL_law 43 = .ok (.sipush 400, 3) := by decide +kernel
theorem dL_law_46 : decode cL_law 46 = .ok (.iload 5, 2) := by decide +kernel
theorem dL_law_48 : decode cL_law 48 = .ok (.iconst 2, 1) := by decide +kernel
theorem dL_law_49 : decode cL_law 49 = .ok (.ishr, 1) := by decide +kernel
theorem dL_law_50 : decode cL_law 50 = .ok (.sipush 900, 3) := by decide +kernel
theorem dL_law_53 : decode cL_law 53 = .ok (.invokestatic 9, 3) := by decide +kernel
theorem dL_law_56 : decode cL_law 56 = .ok (.iadd, 1) := by decide +kernel
theorem dL_law_57 : decode cL_law 57 = .ok (.istore 7, 2) := by decide +kernel
theorem dL_law_59 : decode cL_law 59 = .ok (.iload_n 3, 1) := by decide +kernel
theorem dL_law_60 : decode cL_law 60 = .ok (.ifCond .eq 57, 3) := by decide +kernel
theorem dL_law_63 : decode cL_law 63 = .ok (.aload_n 1, 1) := by decide +kernel
theorem dL_law_64 : decode cL_law 64 = .ok (.iload 6, 2) := by decide +kernel
theorem dL_law_66 : decode cL_law 66 = .ok (.iload 7, 2) := by decide +kernel
theorem dL_law_68 : decode cL_law 68 = .ok (.iconst 1, 1) := by decide +kernel
theorem dL_law_69 : decode cL_law 69 = .ok (.iload 5, 2) := by decide +kernel
theorem dL_law_71 : decode cL_law 71 = .ok (.bipush 12, 2) := by decide +kernel
theorem dL_law_73 : decode cL_law 73 = .ok (.ishr, 1) := by decide +kernel
theorem dL_law_74 : decode cL_law 74 = .ok (.bipush 80, 2) := by decide +kernel
theorem dL_law_76 : decode cL_law 76 = .ok (.invokestatic 9, 3) := by decide +kernel
theorem dL_law_79 : decode cL_law 79 = .ok (.iadd, 1) := by decide +kernel
theorem dL_law_80 : decode cL_law 80 = .ok (.invokevirtual 72, 3) := by decide +kernel
theorem dL_law_83 : decode cL_law 83 = .ok (.iload 4, 2) := by decide +kernel
theorem dL_law_85 : decode cL_law 85 = .ok (.if_icmp .ne 32, 3) := by decide +kernel
theorem dL_law_88 : decode cL_law 88 = .ok (.aload_n 2, 1) := by decide +kernel
theorem dL_law_89 : decode cL_law 89 = .ok (.iload 6, 2) := by decide +kernel
theorem dL_law_91 : decode cL_law 91 = .ok (.iload 7, 2) := by decide +kernel
theorem dL_law_93 : decode cL_law 93 = .ok (.iconst 1, 1) := by decide +kernel
theorem dL_law_94 : decode cL_law 94 = .ok (.iload 5, 2) := by decide +kernel
theorem dL_law_96 : decode cL_law 96 = .ok (.bipush 12, 2) := by decide +kernel
theorem dL_law_98 : decode cL_law 98 = .ok (.ishr, 1) := by decide +kernel
theorem dL_law_99 : decode cL_law 99 = .ok (.bipush 80, 2) := by decide +kernel
theorem dL_law_101 : decode cL_law 101 = .ok (.invokestatic 9, 3) := by decide +kernel
theorem dL_law_104 : decode cL_law 104 = .ok (.iadd, 1) := by decide +kernel
theorem dL_law_105 : decode cL_law 105 = .ok (.invokevirtual 72, 3) := by decide +kernel
theorem dL_law_108 : decode cL_law 108 = .ok (.iload 4, 2) := by decide +kernel
theorem dL_law_110 : decode cL_law 110 = .ok (.if_icmp .ne 7, 3) := by decide +kernel
theorem dL_law_113 : decode cL_law 113 = .ok (.iconst 1, 1) := by decide +kernel
theorem dL_law_114 : decode cL_law 114 = .ok (.goto 4, 3) := by decide +kernel
theorem dL_law_117 : decode cL_law 117 = .ok (.iconst 0, 1) := by decide +kernel
theorem dL_law_118 : decode cL_law 118 = .ok (.istore_n 3, 1) := by decide +kernel
theorem dL_law_119 : decode cL_law 119 = .ok (.iload_n 3, 1) := by decide +kernel
theorem dL_law_120 : decode cL_law 120 = .ok (.ifCond .eq 59, 3) := by decide +kernel
theorem dL_law_123 : decode cL_law 123 = .ok (.aload_n 1, 1) := by decide +kernel
theorem dL_law_124 : decode cL_law 124 = .ok (.bipush 10, 2) := by decide +kernel
theorem dL_law_126 : decode cL_law 126 = .ok (.aload_n 0, 1) := by decide +kernel
theorem dL_law_127 : decode cL_law 127 = .ok (.iconst 3, 1) := by decide +kernel
theorem dL_law_128 : decode cL_law 128 = .ok (.iload 4, 2) := by decide +kernel
theorem dL_law_130 : decode cL_law 130 = .ok (.iadd, 1) := by decide +kernel
theorem dL_law_131 : decode cL_law 131 = .ok (.invokestatic 68, 3) := by decide +kernel
theorem dL_law_134 : decode cL_law 134 = .ok (.sipush 400, 3) := by decide +kernel
theorem dL_law_137 : decode cL_law 137 = .ok (.invokestatic 9, 3) := by decide +kernel
theorem dL_law_140 : decode cL_law 140 = .ok (.iadd, 1) := by decide +kernel
theorem dL_law_141 : decode cL_law 141 = .ok (.invokevirtual 76, 3) := by decide +kernel
theorem dL_law_144 : decode cL_law 144 = .ok (.iload 4, 2) := by decide +kernel
theorem dL_law_146 : decode cL_law 146 = .ok (.if_icmp .ne 33, 3) := by decide +kernel
theorem dL_law_149 : decode cL_law 149 = .ok (.aload_n 2, 1) := by decide +kernel
theorem dL_law_150 : decode cL_law 150 = .ok (.bipush 10, 2) := by decide +kernel
theorem dL_law_152 : decode cL_law 152 = .ok (.aload_n 0, 1) := by decide +kernel
theorem dL_law_153 : decode cL_law 153 = .ok (.iconst 5, 1) := by decide +kernel
theorem dL_law_154 : decode cL_law 154 = .ok (.iload 4, 2) := by decide +kernel
theorem dL_law_156 : decode cL_law 156 = .ok (.isub, 1) := by decide +kernel
theorem dL_law_157 : decode cL_law 157 = .ok (.invokestatic 68, 3) := by decide +kernel
theorem dL_law_160 : decode cL_law 160 = .ok (.sipush 400, 3) := by decide +kernel
theorem dL_law_163 : decode cL_law 163 = .ok (.invokestatic 9, 3) := by decide +kernel
theorem dL_law_166 : decode cL_law 166 = .ok (.iadd, 1) := by decide +kernel
theorem dL_law_167 : decode cL_law 167 = .ok (.invokevirtual 76, 3) := by decide +kernel
theorem dL_law_170 : decode cL_law 170 = .ok (.iload 4, 2) := by decide +kernel
theorem dL_law_172 : decode cL_law 172 = .ok (.if_icmp .ne 7, 3) := by decide +kernel
theorem dL_law_175 : decode cL_law 175 = .ok (.iconst 1, 1) := by decide +kernel
theorem dL_law_176 : decode cL_law 176 = .ok (.goto 4, 3) := by decide +kernel
theorem dL_law_179 : decode cL_law 179 = .ok (.iconst 0, 1) := by decide +kernel
theorem dL_law_180 : decode cL_law 180 = .ok (.istore_n 3, 1) := by decide +kernel
theorem dL_law_181 : decode cL_law 181 = .ok (.iinc 4 1, 3) := by decide +kernel
theorem dL_law_184 : decode cL_law 184 = .ok (.goto (-163), 3) := by decide +kernel
theorem dL_law_187 : decode cL_law 187 = .ok (.iconst 0, 1) := by decide +kernel
theorem dL_law_188 : decode cL_law 188 = .ok (.istore 4, 2) := by decide +kernel
theorem dL_law_190 : decode cL_law 190 = .ok (.iload 4, 2) := by decide +kernel
theorem dL_law_192 : decode cL_law 192 = .ok (.iconst 3, 1) := by decide +kernel
theorem dL_law_193 : decode cL_law 193 = .ok (.if_icmp .ge 57, 3) := by decide +kernel
theorem dL_law_196 : decode cL_law 196 = .ok (.aload_n 0, 1) := by decide +kernel
theorem dL_law_197 : decode cL_law 197 = .ok (.bipush 6, 2) := by decide +kernel
theorem dL_law_199 : decode cL_law 199 = .ok (.iload 4, 2) := by decide +kernel
theorem dL_law_201 : decode cL_law 201 = .ok (.iadd, 1) := by decide +kernel
theorem dL_law_202 : decode cL_law 202 = .ok (.invokestatic 68, 3) := by decide +kernel
theorem dL_law_205 : decode cL_law 205 = .ok (.sipush 200, 3) := by decide +kernel
theorem dL_law_208 : decode cL_law 208 = .ok (.invokestatic 9, 3) := by decide +kernel
theorem dL_law_211 : decode cL_law 211 = .ok (.istore 5, 2) := by decide +kernel
theorem dL_law_213 : decode cL_law 213 = .ok (.iload_n 3, 1) := by decide +kernel
theorem dL_law_214 : decode cL_law 214 = .ok (.ifCond .eq 28, 3) := by decide +kernel
theorem dL_law_217 : decode cL_law 217 = .ok (.aload_n 1, 1) := by decide +kernel
theorem dL_law_218 : decode cL_law 218 = .ok (.iload 4, 2) := by decide +kernel
theorem dL_law_220 : decode cL_law 220 = .ok (.iload 5, 2) := by decide +kernel
theorem dL_law_222 : decode cL_law 222 = .ok (.sipush 200, 3) := by decide +kernel
theorem dL_law_225 : decode cL_law 225 = .ok (.iload 4, 2) := by decide +kernel
theorem dL_law_227 : decode cL_law 227 = .ok (.iadd, 1) := by decide +kernel
theorem dL_law_228 : decode cL_law 228 = .ok (.invokevirtual 79, 3) := by decide +kernel
theorem dL_law_231 : decode cL_law 231 = .ok (.iload 4, 2) := by decide +kernel
theorem dL_law_233 : decode cL_law 233 = .ok (.iconst 1, 1) := by decide +kernel
theorem dL_law_234 : decode cL_law 234 = .ok (.iadd, 1) := by decide +kernel
theorem dL_law_235 : decode cL_law 235 = .ok (.if_icmp .ne 7, 3) := by decide +kernel
theorem dL_law_238 : decode cL_law 238 = .ok (.iconst 1, 1) := by decide +kernel
theorem dL_law_239 : decode cL_law 239 = .ok (.goto 4, 3) := by decide +kernel
theorem dL_law_242 : decode cL_law 242 = .ok (.iconst 0, 1) := by decide +kernel
theorem dL_law_243 : decode cL_law 243 = .ok (.istore_n 3, 1) := by decide +kernel
theorem dL_law_244 : decode cL_law 244 = .ok (.iinc 4 1, 3) := by decide +kernel
theorem dL_law_247 : decode cL_law 247 = .ok (.goto (-57), 3) := by decide +kernel
theorem dL_law_250 : decode cL_law 250 = .ok (.iconst 0, 1) := by decide +kernel
theorem dL_law_251 : decode cL_law 251 = .ok (.istore 4, 2) := by decide +kernel
theorem dL_law_253 : decode cL_law 253 = .ok (.iload 4, 2) := by decide +kernel
theorem dL_law_255 : decode cL_law 255 = .ok (.iconst 3, 1) := by decide +kernel
theorem dL_law_256 : decode cL_law 256 = .ok (.if_icmp .ge 57, 3) := by decide +kernel
theorem dL_law_259 : decode cL_law 259 = .ok (.aload_n 0, 1) := by decide +kernel
theorem dL_law_260 : decode cL_law 260 = .ok (.bipush 8, 2) := by decide +kernel
theorem dL_law_262 : decode cL_law 262 = .ok (.iload 4, 2) := by decide +kernel
theorem dL_law_264 : decode cL_law 264 = .ok (.isub, 1) := by decide +kernel
theorem dL_law_265 : decode cL_law 265 = .ok (.invokestatic 68, 3) := by decide +kernel
theorem dL_law_268 : decode cL_law 268 = .ok (.sipush 200, 3) := by decide +kernel
theorem dL_law_271 : decode cL_law 271 = .ok (.invokestatic 9, 3) := by decide +kernel
theorem dL_law_274 : decode cL_law 274 = .ok (.istore 5, 2) := by decide +kernel
theorem dL_law_276 : decode cL_law 276 = .ok (.iload_n 3, 1) := by decide +kernel
theorem dL_law_277 : decode cL_law 277 = .ok (.ifCond .eq 28, 3) := by decide +kernel
theorem dL_law_280 : decode cL_law 280 = .ok (.aload_n 2, 1) := by decide +kernel
theorem dL_law_281 : decode cL_law 281 = .ok (.iload 4, 2) := by decide +kernel
theorem dL_law_283 : decode cL_law 283 = .ok (.iload 5, 2) := by decide +kernel
theorem dL_law_285 : decode cL_law 285 = .ok (.sipush 202, 3) := by decide +kernel
theorem dL_law_288 : decode cL_law 288 = .ok (.iload 4, 2) := by decide +kernel
theorem dL_law_290 : decode cL_law 290 = .ok (.isub, 1) := by decide +kernel
theorem dL_law_291 : decode cL_law 291 = .ok (.invokevirtual 79, 3) := by decide +kernel
theorem dL_law_294 : decode cL_law 294 = .ok (.iload 4, 2) := by decide +kernel
theorem dL_law_296 : decode cL_law 296 = .ok (.iconst 1, 1) := by decide +kernel
theorem dL_law_297 : decode cL_law 297 = .ok (.iadd, 1) := by decide +kernel
theorem dL_law_298 : decode cL_law 298 = .ok (.if_icmp .ne 7, 3) := by decide +kernel
theorem dL_law_301 : decode cL_law 301 = .ok (.iconst 1, 1) := by decide +kernel
theorem dL_law_302 : decode cL_law 302 = .ok (.goto 4, 3) := by decide +kernel
theorem dL_law_305 : decode cL_law 305 = .ok (.iconst 0, 1) := by decide +kernel
theorem dL_law_306 : decode cL_law 306 = .ok (.istore_n 3, 1) := by decide +kernel
theorem dL_law_307 : decode cL_law 307 = .ok (.iinc 4 1, 3) := by decide +kernel
theorem dL_law_310 : decode cL_law 310 = .ok (.goto (-57), 3) := by decide +kernel
theorem dL_law_313 : decode cL_law 313 = .ok (.iload_n 3, 1) := by decide +kernel
theorem dL_law_314 : decode cL_law 314 = .ok (.ifCond .eq 47, 3) := by decide +kernel
theorem dL_law_317 : decode cL_law 317 = .ok (.aload_n 1, 1) := by decide +kernel
theorem dL_law_318 : decode cL_law 318 = .ok (.bipush 18, 2) := by decide +kernel
theorem dL_law_320 : decode cL_law 320 = .ok (.aload_n 0, 1) := by decide +kernel
theorem dL_law_321 : decode cL_law 321 = .ok (.bipush 9, 2) := by decide +kernel
theorem dL_law_323 : decode cL_law 323 = .ok (.invokestatic 68, 3) := by decide +kernel
theorem dL_law_326 : decode cL_law 326 = .ok (.bipush 60, 2) := by decide +kernel
theorem dL_law_328 : decode cL_law 328 = .ok (.invokestatic 9, 3) := by decide +kernel
theorem dL_law_331 : decode cL_law 331 = .ok (.invokevirtual 40, 3) := by decide +kernel
theorem dL_law_334 : decode cL_law 334 = .ok (.ifCond .ne 27, 3) := by decide +kernel
theorem dL_law_337 : decode cL_law 337 = .ok (.aload_n 2, 1) := by decide +kernel
theorem dL_law_338 : decode cL_law 338 = .ok (.bipush 18, 2) := by decide +kernel
theorem dL_law_340 : decode cL_law 340 = .ok (.aload_n 0, 1) := by decide +kernel
theorem dL_law_341 : decode cL_law 341 = .ok (.bipush 9, 2) := by decide +kernel
theorem dL_law_343 : decode cL_law 343 = .ok (.invokestatic 68, 3) := by decide +kernel
theorem dL_law_346 : decode cL_law 346 = .ok (.bipush 60, 2) := by decide +kernel
theorem dL_law_348 : decode cL_law 348 = .ok (.invokestatic 9, 3) := by decide +kernel
theorem dL_law_351 : decode cL_law 351 = .ok (.invokevirtual 40, 3) := by decide +kernel
theorem dL_law_354 : decode cL_law 354 = .ok (.ifCond .ne 7, 3) := by decide +kernel
theorem dL_law_357 : decode cL_law 357 = .ok (.iconst 1, 1) := by decide +kernel
theorem dL_law_358 : decode cL_law 358 = .ok (.goto 4, 3) := by decide +kernel
theorem dL_law_361 : decode cL_law 361 = .ok (.iconst 0, 1) := by decide +kernel
theorem dL_law_362 : decode cL_law 362 = .ok (.istore_n 3, 1) := by decide +kernel
theorem dL_law_363 : decode cL_law 363 = .ok (.bipush 10, 2) := by decide +kernel
theorem dL_law_365 : decode cL_law 365 = .ok (.istore 4, 2) := by decide +kernel
theorem dL_law_367 : decode cL_law 367 = .ok (.iload 4, 2) := by decide +kernel
theorem dL_law_369 : decode cL_law 369 = .ok (.bipush 44, 2) := by decide +kernel
theorem dL_law_371 : decode cL_law 371 = .ok (.if_icmp .ge 48, 3) := by decide +kernel
theorem dL_law_374 : decode cL_law 374 = .ok (.iload_n 3, 1) := by decide +kernel
theorem dL_law_375 : decode cL_law 375 = .ok (.ifCond .eq 44, 3) := by decide +kernel
theorem dL_law_378 : decode cL_law 378 = .ok (.aload_n 1, 1) := by decide +kernel
theorem dL_law_379 : decode cL_law 379 = .ok (.aload_n 2, 1) := by decide +kernel
theorem dL_law_380 : decode cL_law 380 = .ok (.aload_n 0, 1) := by decide +kernel
theorem dL_law_381 : decode cL_law 381 = .ok (.iload 4, 2) := by decide +kernel
theorem dL_law_383 : decode cL_law 383 = .ok (.invokestatic 68, 3) := by decide +kernel
theorem dL_law_386 : decode cL_law 386 = .ok (.invokestatic 82, 3) := by decide +kernel
theorem dL_law_389 : decode cL_law 389 = .ok (.ifCond .eq 22, 3) := by decide +kernel
theorem dL_law_392 : decode cL_law 392 = .ok (.aload_n 1, 1) := by decide +kernel
theorem dL_law_393 : decode cL_law 393 = .ok (.aload_n 2, 1) := by decide +kernel
theorem dL_law_394 : decode cL_law 394 = .ok (.invokestatic 86, 3) := by decide +kernel
theorem dL_law_397 : decode cL_law 397 = .ok (.ifCond .eq 14, 3) := by decide +kernel
theorem dL_law_400 : decode cL_law 400 = .ok (.aload_n 1, 1) := by decide +kernel
theorem dL_law_401 : decode cL_law 401 = .ok (.invokestatic 90, 3) := by decide +kernel
theorem dL_law_404 : decode cL_law 404 = .ok (.ifCond .eq 7, 3) := by decide +kernel
theorem dL_law_407 : decode cL_law 407 = .ok (.iconst 1, 1) := by decide +kernel
theorem dL_law_408 : decode cL_law 408 = .ok (.goto 4, 3) := by decide +kernel
theorem dL_law_411 : decode cL_law 411 = .ok (.iconst 0, 1) := by decide +kernel
theorem dL_law_412 : decode cL_law 412 = .ok (.istore_n 3, 1) := by decide +kernel
theorem dL_law_413 : decode cL_law 413 = .ok (.iinc 4 1, 3) := by decide +kernel
theorem dL_law_416 : decode cL_law 416 = .ok (.goto (-49), 3) := by decide +kernel
theorem dL_law_419 : decode cL_law 419 = .ok (.iload_n 3, 1) := by decide +kernel
theorem dL_law_420 : decode cL_law 420 = .ok (.ifCond .eq 14, 3) := by decide +kernel
theorem dL_law_423 : decode cL_law 423 = .ok (.aload_n 1, 1) := by decide +kernel
theorem dL_law_424 : decode cL_law 424 = .ok (.invokestatic 94, 3) := by decide +kernel
theorem dL_law_427 : decode cL_law 427 = .ok (.ifCond .eq 7, 3) := by decide +kernel
theorem dL_law_430 : decode cL_law 430 = .ok (.iconst 1, 1) := by decide +kernel
theorem dL_law_431 : decode cL_law 431 = .ok (.goto 4, 3) := by decide +kernel
theorem dL_law_434 : decode cL_law 434 = .ok (.iconst 0, 1) := by decide +kernel
theorem dL_law_435 : decode cL_law 435 = .ok (.ireturn, 1) := by decide +kernel
end
section
/-! ===== pairs of objects of one class ===== -/
def tw2 {τ : Type} (toT : τ → xW) (n : Nat) : τ × τ → xW := fun S => toT S.1 ++ sh n (toT S.2)
def r2 (b1 b2 n i : Nat) : Nat := if i < n then b1 + i else b2 + (i - n)
theorem r2_inj {b1 b2 n i j : Nat} (hb : b1 + n ≤ b2 ∨ b2 + n ≤ b1) (hi : i < n + n) (hj : j < n + n) (h : r2 b1 b2 n i = r2 b1 b2 n j) : i = j := by
  unfold r2 at h
  split at h <;> split at h <;> omega
theorem Emb.two {b1 b2 n : Nat} {w w' u u' : xW} (hb : b1 + n ≤ b2 ∨ b2 + n ≤ b1) (hu : u.length = n + n) (hu' : u'.length = n + n) (hw : w'.length = w.length) (h1 : b1 + n ≤ w.length) (h2 : b2 + n ≤ w.length)
    (e1 : u.map (xcr (r2 b1 b2 n)) = (w.drop b1).take n ++ (w.drop b2).take n) (e2 : u'.map (xcr (r2 b1 b2 n)) = (w'.drop b1).take n ++ (w'.drop b2).take n)
    (e3 : ∀ j, (j < b1 ∨ b1 + n ≤ j) → (j < b2 ∨ b2 + n ≤ j) → w'[j]? = w[j]?) : Emb (r2 b1 b2 n) w w' u u' := by
  have aux : ∀ (w u : xW), u.map (xcr (r2 b1 b2 n)) = (w.drop b1).take n ++ (w.drop b2).take n → b1 + n ≤ w.length → b2 + n ≤ w.length → ∀ i c, u[i]? = some c → w[r2 b1 b2 n i]? = some (xcr (r2 b1 b2 n) c) := by
    intro w u e h1 h2 i c hc
    have h3 : (u.map (xcr (r2 b1 b2 n)))[i]? = some (xcr (r2 b1 b2 n) c) := by rw [List.getElem?_map, hc]; rfl
    rw [e, List.getElem?_append] at h3
    have hl : ((w.drop b1).take n).length = n := by simp; omega
    rw [hl] at h3
    unfold r2 at h3 ⊢
    split
    · rename_i hi
      rw [if_pos hi, List.getElem?_take_of_lt hi, List.getElem?_drop] at h3
      exact h3
    · rename_i hi
      rw [if_neg hi] at h3
      have hi2 : i - n < n := by
        rcases Nat.lt_or_ge (i - n) n with q | q
        · exact q
        · rw [List.getElem?_take, if_neg (by omega)] at h3; cases h3
      rw [List.getElem?_take_of_lt hi2, List.getElem?_drop] at h3
      exact h3
  refine ⟨by omega, hw, fun i j hi hj h => r2_inj hb (by omega) (by omega) h, aux w u e1 h1 h2, aux w' u' e2 (by omega) (by omega), fun j c hc => ?_⟩
  by_cases q1 : b1 ≤ j ∧ j < b1 + n
  · exact Or.inl ⟨j - b1, by omega, by unfold r2; rw [if_pos (by omega)]; omega⟩
  · by_cases q2 : b2 ≤ j ∧ j < b2 + n
    · exact Or.inl ⟨n + (j - b2), by omega, by unfold r2; rw [if_neg (by omega)]; omega⟩
    · refine Or.inr ⟨by rw [← e3 j (by omega) (by omega)]; exact hc, fun i hi q => ?_⟩
      unfold r2 at q
      split at q <;> omega
def Lens2 {σ τ : Type} (toW : σ → xW) (toT : τ → xW) (b1 b2 n : Nat) (g : σ → τ × τ) (f : σ → τ × τ → σ) : Prop :=
  ∀ S P', Emb (r2 b1 b2 n) (toW S) (toW (f S P')) (tw2 toT n (g S)) (tw2 toT n P')
def O_callC {σ τ : Type} (b1 b2 n : Nat) (g : σ → τ × τ) (f : σ → τ × τ → σ) (sp : Sp (τ × τ)) : Op σ := fun K pc L st S => match st with
  | .ref k2 :: .ref k1 :: r => k1 = b1 ∧ k2 = b2 ∧ r.length ≤ 4 ∧ sp [.ref 0, .ref n] (g S) (fun v P' => K (pc + 3) L (v.toList ++ r) (f S P'))
  | _ => False
theorem O_callC_eq {σ τ : Type} (K : Kt σ) (pc : Nat) (S : σ) (L : xL) (r : List Value) (b1 b2 n k1 k2 : Nat) (g : σ → τ × τ) (f : σ → τ × τ → σ) (sp : Sp (τ × τ)) : O_callC b1 b2 n g f sp K pc L (.ref k2 :: .ref k1 :: r) S = (k1 = b1 ∧ k2 = b2 ∧ r.length ≤ 4 ∧ sp [.ref 0, .ref n] (g S) (fun v P' => K (pc + 3) L (v.toList ++ r) (f S P'))) := rfl
theorem ok_callC {σ τ : Type} {E : En} {own : String} {cc : ByteArray} {maxL d pc : Nat} {toW : σ → xW} {toT : τ → xW} (F : Fx E own cc maxL d) {ix b1 b2 n : Nat} (h0n : 0 < n) {y : MethodName} {ycc : ByteArray} {ymL dy : Nat} {yret : Option FieldType} {g : σ → τ × τ} {f : σ → τ × τ → σ} {sp : Sp (τ × τ)} (hsp : SpOk y ycc ymL yret dy (tw2 toT n) sp) (hln : Lens2 toW toT b1 b2 n g f) (hrc : rcvOk toT y.cls) (hck : cokV own ix y ycc ymL yret 1 = true) (hdd : dy + 1 ≤ d) (hd : decode cc pc = .ok (.invokevirtual ix, 3)) (hpc : pc + 3 < 100000) : OpOk E toW pc (O_callC b1 b2 n g f sp) := by
  refine OpOk.mk (by omega) fun {p l e R s m args below meth c Qc Q cs A nL D ad} hE K L st S ho hk H locs hP hap hS hL hn ls hl => ?_
  subst hE
  unfold O_callC at ho
  split at ho
  · rename_i k2 k1 r
    obtain ⟨rfl, rfl, hr4, ho⟩ := ho
    obtain ⟨rv, P', hnum, ⟨hlen, hM⟩, hK⟩ := hsp _ _ _ ho
    have hEm := hln S P'
    obtain ⟨h1, h2, h3, h4, h5, h6, h7, h8, h9, h10, h11, h12, h13⟩ := id F
    simp only [cokV, Bool.and_eq_true, decide_eq_true_eq] at hck
    obtain ⟨hws, hd1, hd2, hd3, hd4⟩ := hck
    have hz := fun w (hh : w ∈ _) => wsHas_mem hws hh
    obtain ⟨ci, fs, T, N, hr0, hrc0⟩ := hrc (g S).1
    have hu0 : (tw2 toT n (g S))[0]? = some (.inr (.inl (ci, fs))) := by
      unfold tw2
      rw [List.getElem?_append_left (by rcases Nat.eq_zero_or_pos (toT (g S).1).length with q | q; (rw [List.eq_nil_of_length_eq_zero q] at hr0; cases hr0); exact q)]
      exact hr0
    have hrcell := hEm.2.2.2.1 0 _ hu0
    have e0 : r2 k1 k2 n 0 = k1 := by unfold r2; rw [if_pos h0n]; rfl
    have en : r2 k1 k2 n n = k2 := by unfold r2; rw [if_neg (Nat.lt_irrefl n), Nat.sub_self]; rfl
    rw [e0] at hrcell
    refine x_call (va_runV (y := y) (bytes := ycc) (maxL := ymL) (ret := yret) (n := 1) (As := [.ref (ad k2)]) (rest := r.map (xv ad)) (b := ad k1) (C := y.cls) ⟨h1, h2, h3, h5, h6⟩ (hM l D (fun i => ad (r2 k1 k2 n i)) H.size) (cwV 1 h6 (ws_GoodIn ?_) rfl rfl rfl ⟨rfl, hd1, hd2, hd3⟩ ⟨?_, ?_⟩) ⟨blind_xPre, ?_, fun U hU hW => ⟨?_, ?_, ?_, ?_, ?_⟩⟩ rfl rfl (hl.1) rfl (lv_room (cat_sum8 hr4)) hd ⟨?_, ?_⟩) (fun v st₀ t L1 h0 hf hq => call_after F hEm hnum rfl (hk _ _ _ _ hK) hpc hP hap hS hL hn hl h0 hf hq)
    · intro w hw
      simp only [wsV, List.mem_append, List.mem_cons, List.not_mem_nil, or_false] at hw
      rcases hw with (rfl | rfl | rfl | rfl) | rfl | hw
      · exact hz _ (by simp)
      · exact hz _ (by simp)
      · exact hz _ (by simp)
      · exact hz _ (by simp)
      · exact hz _ (by simp)
      · exact hw
    · show dy + 1 ≤ _; omega
    · show 8 + (ymL + 11) + 36 * dy ≤ _; omega
    · exact va_recv (ci := ci) (q0 := k1) h8.1 hP hrc0 (by rw [xw_get, show (toW S)[k1]? = _ from hrcell]; rfl)
    · show _ = (List.map (xv (fun i => ad (r2 k1 k2 n i))) [Value.ref 0, Value.ref n]).toArray
      show _ = [Value.ref (ad (r2 k1 k2 n 0)), Value.ref (ad (r2 k1 k2 n n))].toArray
      rw [e0, en]
    · rw [hU]
    · rw [hU]; exact emb_P hEm hP
    · exact h8.warm hW
    · intro i j hi hj hij
      exact hEm.2.2.1 i j hi hj (hap.1 _ _ (by have := (List.getElem?_eq_some_iff.mp (hEm.2.2.2.1 i _ (List.getElem?_eq_getElem hi))).1; exact this) (by have := (List.getElem?_eq_some_iff.mp (hEm.2.2.2.1 j _ (List.getElem?_eq_getElem hj))).1; exact this) hij)
    · omega
    · omega
  · exact ho.elim
abbrev pW2 : PT × PT → xW := tw2 pW 9
set_option maxRecDepth 100000 in
theorem pW2_F : (∀ S : PT × PT, getF (pW2 S) 3 0 0 = some (.ref 1)) ∧
  (∀ S : PT × PT, getF (pW2 S) 3 0 1 = some (.ref 2)) ∧
  (∀ S : PT × PT, getF (pW2 S) 3 0 2 = some (.ref 3)) ∧
  (∀ S : PT × PT, getF (pW2 S) 3 0 3 = some (.ref 4)) ∧
  (∀ S : PT × PT, getF (pW2 S) 3 0 4 = some (.ref 5)) ∧
  (∀ S : PT × PT, getF (pW2 S) 3 0 5 = some (.ref 6)) ∧
  (∀ S : PT × PT, getF (pW2 S) 3 0 6 = some (.ref 7)) ∧
  (∀ S : PT × PT, getF (pW2 S) 3 0 7 = some (.ref 8)) ∧
  (∀ S : PT × PT, getF (pW2 S) 3 0 8 = some (.int S.1.size)) ∧
  (∀ S : PT × PT, getF (pW2 S) 3 0 9 = some (.int S.1.vrb)) ∧
  (∀ S : PT × PT, getF (pW2 S) 3 9 0 = some (.ref 10)) ∧
  (∀ S : PT × PT, getF (pW2 S) 3 9 1 = some (.ref 11)) ∧
  (∀ S : PT × PT, getF (pW2 S) 3 9 2 = some (.ref 12)) ∧
  (∀ S : PT × PT, getF (pW2 S) 3 9 3 = some (.ref 13)) ∧
  (∀ S : PT × PT, getF (pW2 S) 3 9 4 = some (.ref 14)) ∧
  (∀ S : PT × PT, getF (pW2 S) 3 9 5 = some (.ref 15)) ∧
  (∀ S : PT × PT, getF (pW2 S) 3 9 6 = some (.ref 16)) ∧
  (∀ S : PT × PT, getF (pW2 S) 3 9 7 = some (.ref 17)) ∧
  (∀ S : PT × PT, getF (pW2 S) 3 9 8 = some (.int S.2.size)) ∧
  (∀ S : PT × PT, getF (pW2 S) 3 9 9 = some (.int S.2.vrb)) := by
  repeat' apply And.intro
  all_goals (intro S; rfl)
set_option maxRecDepth 100000 in
theorem pW2_A : (∀ S : PT × PT, getA (pW2 S) 1 = some (0, 6, S.1.kinds)) ∧
  (∀ S : PT × PT, getA (pW2 S) 2 = some (0, 6, S.1.shutoffs)) ∧
  (∀ S : PT × PT, getA (pW2 S) 3 = some (0, 6, S.1.steeps)) ∧
  (∀ S : PT × PT, getA (pW2 S) 4 = some (1, 6, S.1.inService)) ∧
  (∀ S : PT × PT, getA (pW2 S) 5 = some (0, 6, S.1.speeds)) ∧
  (∀ S : PT × PT, getA (pW2 S) 6 = some (0, 6, S.1.minutes)) ∧
  (∀ S : PT × PT, getA (pW2 S) 7 = some (0, 6, S.1.since)) ∧
  (∀ S : PT × PT, getA (pW2 S) 8 = some (0, 6, S.1.starts)) ∧
  (∀ S : PT × PT, getA (pW2 S) 10 = some (0, 6, S.2.kinds)) ∧
  (∀ S : PT × PT, getA (pW2 S) 11 = some (0, 6, S.2.shutoffs)) ∧
  (∀ S : PT × PT, getA (pW2 S) 12 = some (0, 6, S.2.steeps)) ∧
  (∀ S : PT × PT, getA (pW2 S) 13 = some (1, 6, S.2.inService)) ∧
  (∀ S : PT × PT, getA (pW2 S) 14 = some (0, 6, S.2.speeds)) ∧
  (∀ S : PT × PT, getA (pW2 S) 15 = some (0, 6, S.2.minutes)) ∧
  (∀ S : PT × PT, getA (pW2 S) 16 = some (0, 6, S.2.since)) ∧
  (∀ S : PT × PT, getA (pW2 S) 17 = some (0, 6, S.2.starts)) := by
  repeat' apply And.intro
  all_goals (intro S; rfl)
def pW2_sa (S : PT × PT) (id : Nat) (g : Nat → Int32) : Option (PT × PT) := if id = 1 then some ((S.1.sKinds g), S.2) else if id = 2 then some ((S.1.sShutoffs g), S.2) else if id = 3 then some ((S.1.sSteeps g), S.2) else if id = 4 then some ((S.1.sInService g), S.2) else if id = 5 then some ((S.1.sSpeeds g), S.2) else if id = 6 then some ((S.1.sMinutes g), S.2) else if id = 7 then some ((S.1.sSince g), S.2) else if id = 8 then some ((S.1.sStarts g), S.2) else none
theorem pW2_sar : sarOk pW2 pW2_sa := by
  intro S id g S' t n f h hA
  unfold pW2_sa at h
  by_cases h1 : id = 1
  · subst h1
    rw [if_pos rfl] at h
    cases h
    cases hA
    rfl
  rw [if_neg h1] at h
  by_cases h2 : id = 2
  · subst h2
    rw [if_pos rfl] at h
    cases h
    cases hA
    rfl
  rw [if_neg h2] at h
  by_cases h3 : id = 3
  · subst h3
    rw [if_pos rfl] at h
    cases h
    cases hA
    rfl
  rw [if_neg h3] at h
  by_cases h4 : id = 4
  · subst h4
    rw [if_pos rfl] at h
    cases h
    cases hA
    rfl
  rw [if_neg h4] at h
  by_cases h5 : id = 5
  · subst h5
    rw [if_pos rfl] at h
    cases h
    cases hA
    rfl
  rw [if_neg h5] at h
  by_cases h6 : id = 6
  · subst h6
    rw [if_pos rfl] at h
    cases h
    cases hA
    rfl
  rw [if_neg h6] at h
  by_cases h7 : id = 7
  · subst h7
    rw [if_pos rfl] at h
    cases h
    cases hA
    rfl
  rw [if_neg h7] at h
  by_cases h8 : id = 8
  · subst h8
    rw [if_pos rfl] at h
    cases h
    cases hA
    rfl
  rw [if_neg h8] at h
  cases h
set_option maxRecDepth 100000 in
theorem pW2_S : (∀ (S : PT × PT) (g : Nat → Int32), pW2_sa S 1 g = some ((S.1.sKinds g), S.2)) ∧
  (∀ (S : PT × PT) (g : Nat → Int32), pW2_sa S 2 g = some ((S.1.sShutoffs g), S.2)) ∧
  (∀ (S : PT × PT) (g : Nat → Int32), pW2_sa S 3 g = some ((S.1.sSteeps g), S.2)) ∧
  (∀ (S : PT × PT) (g : Nat → Int32), pW2_sa S 4 g = some ((S.1.sInService g), S.2)) ∧
  (∀ (S : PT × PT) (g : Nat → Int32), pW2_sa S 5 g = some ((S.1.sSpeeds g), S.2)) ∧
  (∀ (S : PT × PT) (g : Nat → Int32), pW2_sa S 6 g = some ((S.1.sMinutes g), S.2)) ∧
  (∀ (S : PT × PT) (g : Nat → Int32), pW2_sa S 7 g = some ((S.1.sSince g), S.2)) ∧
  (∀ (S : PT × PT) (g : Nat → Int32), pW2_sa S 8 g = some ((S.1.sStarts g), S.2)) ∧
  True := by
  repeat' apply And.intro
  all_goals first | trivial | (intro S g; rfl)
def pW2_p3_8 (S : PT × PT) (id : Nat) (x : Int32) : Option (PT × PT) := if id = 0 then some ((S.1.sSize x), S.2) else none
theorem pW2_p3_8_ok : putOk pW2 3 8 pW2_p3_8 := by
  intro S id x S' h
  unfold pW2_p3_8 at h
  by_cases h0 : id = 0
  · subst h0
    rw [if_pos rfl] at h
    cases h
    exact ⟨_, rfl, Nat.le_of_ble_eq_true rfl, rfl⟩
  rw [if_neg h0] at h
  cases h
def pW2_p3_9 (S : PT × PT) (id : Nat) (x : Int32) : Option (PT × PT) := if id = 0 then some ((S.1.sVrb x), S.2) else none
theorem pW2_p3_9_ok : putOk pW2 3 9 pW2_p3_9 := by
  intro S id x S' h
  unfold pW2_p3_9 at h
  by_cases h0 : id = 0
  · subst h0
    rw [if_pos rfl] at h
    cases h
    exact ⟨_, rfl, Nat.le_of_ble_eq_true rfl, rfl⟩
  rw [if_neg h0] at h
  cases h
set_option maxRecDepth 100000 in
theorem pW2_P : (∀ (S : PT × PT) (x : Int32), pW2_p3_8 S 0 x = some ((S.1.sSize x), S.2)) ∧
  (∀ (S : PT × PT) (x : Int32), pW2_p3_9 S 0 x = some ((S.1.sVrb x), S.2)) := by
  repeat' apply And.intro
  all_goals (intro S x; rfl)
abbrev zW2 : ZT × ZT → xW := tw2 zW 6
set_option maxRecDepth 100000 in
theorem zW2_F : (∀ S : ZT × ZT, getF (zW2 S) 5 0 0 = some (.ref 1)) ∧
  (∀ S : ZT × ZT, getF (zW2 S) 5 0 1 = some (.ref 2)) ∧
  (∀ S : ZT × ZT, getF (zW2 S) 5 0 2 = some (.int S.1.size)) ∧
  (∀ S : ZT × ZT, getF (zW2 S) 5 0 3 = some (.ref 3)) ∧
  (∀ S : ZT × ZT, getF (zW2 S) 5 0 4 = some (.ref 4)) ∧
  (∀ S : ZT × ZT, getF (zW2 S) 5 0 5 = some (.ref 5)) ∧
  (∀ S : ZT × ZT, getF (zW2 S) 5 0 6 = some (.int S.1.programmes)) ∧
  (∀ S : ZT × ZT, getF (zW2 S) 5 6 0 = some (.ref 7)) ∧
  (∀ S : ZT × ZT, getF (zW2 S) 5 6 1 = some (.ref 8)) ∧
  (∀ S : ZT × ZT, getF (zW2 S) 5 6 2 = some (.int S.2.size)) ∧
  (∀ S : ZT × ZT, getF (zW2 S) 5 6 3 = some (.ref 9)) ∧
  (∀ S : ZT × ZT, getF (zW2 S) 5 6 4 = some (.ref 10)) ∧
  (∀ S : ZT × ZT, getF (zW2 S) 5 6 5 = some (.ref 11)) ∧
  (∀ S : ZT × ZT, getF (zW2 S) 5 6 6 = some (.int S.2.programmes)) := by
  repeat' apply And.intro
  all_goals (intro S; rfl)
set_option maxRecDepth 100000 in
theorem zW2_A : (∀ S : ZT × ZT, getA (zW2 S) 1 = some (0, 8, S.1.demands)) ∧
  (∀ S : ZT × ZT, getA (zW2 S) 2 = some (1, 8, S.1.isOpen)) ∧
  (∀ S : ZT × ZT, getA (zW2 S) 3 = some (0, 8, S.1.pzones)) ∧
  (∀ S : ZT × ZT, getA (zW2 S) 4 = some (0, 8, S.1.opening)) ∧
  (∀ S : ZT × ZT, getA (zW2 S) 5 = some (0, 8, S.1.closing)) ∧
  (∀ S : ZT × ZT, getA (zW2 S) 7 = some (0, 8, S.2.demands)) ∧
  (∀ S : ZT × ZT, getA (zW2 S) 8 = some (1, 8, S.2.isOpen)) ∧
  (∀ S : ZT × ZT, getA (zW2 S) 9 = some (0, 8, S.2.pzones)) ∧
  (∀ S : ZT × ZT, getA (zW2 S) 10 = some (0, 8, S.2.opening)) ∧
  (∀ S : ZT × ZT, getA (zW2 S) 11 = some (0, 8, S.2.closing)) := by
  repeat' apply And.intro
  all_goals (intro S; rfl)
def zW2_sa (S : ZT × ZT) (id : Nat) (g : Nat → Int32) : Option (ZT × ZT) := if id = 1 then some ((S.1.sDemands g), S.2) else if id = 2 then some ((S.1.sIsOpen g), S.2) else if id = 3 then some ((S.1.sPzones g), S.2) else if id = 4 then some ((S.1.sOpening g), S.2) else if id = 5 then some ((S.1.sClosing g), S.2) else none
theorem zW2_sar : sarOk zW2 zW2_sa := by
  intro S id g S' t n f h hA
  unfold zW2_sa at h
  by_cases h1 : id = 1
  · subst h1
    rw [if_pos rfl] at h
    cases h
    cases hA
    rfl
  rw [if_neg h1] at h
  by_cases h2 : id = 2
  · subst h2
    rw [if_pos rfl] at h
    cases h
    cases hA
    rfl
  rw [if_neg h2] at h
  by_cases h3 : id = 3
  · subst h3
    rw [if_pos rfl] at h
    cases h
    cases hA
    rfl
  rw [if_neg h3] at h
  by_cases h4 : id = 4
  · subst h4
    rw [if_pos rfl] at h
    cases h
    cases hA
    rfl
  rw [if_neg h4] at h
  by_cases h5 : id = 5
  · subst h5
    rw [if_pos rfl] at h
    cases h
    cases hA
    rfl
  rw [if_neg h5] at h
  cases h
set_option maxRecDepth 100000 in
theorem zW2_S : (∀ (S : ZT × ZT) (g : Nat → Int32), zW2_sa S 1 g = some ((S.1.sDemands g), S.2)) ∧
  (∀ (S : ZT × ZT) (g : Nat → Int32), zW2_sa S 2 g = some ((S.1.sIsOpen g), S.2)) ∧
  (∀ (S : ZT × ZT) (g : Nat → Int32), zW2_sa S 3 g = some ((S.1.sPzones g), S.2)) ∧
  (∀ (S : ZT × ZT) (g : Nat → Int32), zW2_sa S 4 g = some ((S.1.sOpening g), S.2)) ∧
  (∀ (S : ZT × ZT) (g : Nat → Int32), zW2_sa S 5 g = some ((S.1.sClosing g), S.2)) ∧
  True := by
  repeat' apply And.intro
  all_goals first | trivial | (intro S g; rfl)
def zW2_p5_2 (S : ZT × ZT) (id : Nat) (x : Int32) : Option (ZT × ZT) := if id = 0 then some ((S.1.sSize x), S.2) else none
theorem zW2_p5_2_ok : putOk zW2 5 2 zW2_p5_2 := by
  intro S id x S' h
  unfold zW2_p5_2 at h
  by_cases h0 : id = 0
  · subst h0
    rw [if_pos rfl] at h
    cases h
    exact ⟨_, rfl, Nat.le_of_ble_eq_true rfl, rfl⟩
  rw [if_neg h0] at h
  cases h
def zW2_p5_6 (S : ZT × ZT) (id : Nat) (x : Int32) : Option (ZT × ZT) := if id = 0 then some ((S.1.sProgrammes x), S.2) else none
theorem zW2_p5_6_ok : putOk zW2 5 6 zW2_p5_6 := by
  intro S id x S' h
  unfold zW2_p5_6 at h
  by_cases h0 : id = 0
  · subst h0
    rw [if_pos rfl] at h
    cases h
    exact ⟨_, rfl, Nat.le_of_ble_eq_true rfl, rfl⟩
  rw [if_neg h0] at h
  cases h
set_option maxRecDepth 100000 in
theorem zW2_P : (∀ (S : ZT × ZT) (x : Int32), zW2_p5_2 S 0 x = some ((S.1.sSize x), S.2)) ∧
  (∀ (S : ZT × ZT) (x : Int32), zW2_p5_6 S 0 x = some ((S.1.sProgrammes x), S.2)) := by
  repeat' apply And.intro
  all_goals (intro S x; rfl)
abbrev nW2 : NT × NT → xW := tw2 nW 2
set_option maxRecDepth 100000 in
theorem nW2_F : (∀ S : NT × NT, getF (nW2 S) 1 0 0 = some (.ref 1)) ∧
  (∀ S : NT × NT, getF (nW2 S) 1 0 1 = some (.int S.1.size)) ∧
  (∀ S : NT × NT, getF (nW2 S) 1 0 2 = some (.int S.1.flow)) ∧
  (∀ S : NT × NT, getF (nW2 S) 1 0 3 = some (.int S.1.alarms)) ∧
  (∀ S : NT × NT, getF (nW2 S) 1 2 0 = some (.ref 3)) ∧
  (∀ S : NT × NT, getF (nW2 S) 1 2 1 = some (.int S.2.size)) ∧
  (∀ S : NT × NT, getF (nW2 S) 1 2 2 = some (.int S.2.flow)) ∧
  (∀ S : NT × NT, getF (nW2 S) 1 2 3 = some (.int S.2.alarms)) := by
  repeat' apply And.intro
  all_goals (intro S; rfl)
set_option maxRecDepth 100000 in
theorem nW2_A : (∀ S : NT × NT, getA (nW2 S) 1 = some (0, 7, S.1.noted)) ∧
  (∀ S : NT × NT, getA (nW2 S) 3 = some (0, 7, S.2.noted)) := by
  repeat' apply And.intro
  all_goals (intro S; rfl)
def nW2_sa (S : NT × NT) (id : Nat) (g : Nat → Int32) : Option (NT × NT) := if id = 1 then some ((S.1.sNoted g), S.2) else none
theorem nW2_sar : sarOk nW2 nW2_sa := by
  intro S id g S' t n f h hA
  unfold nW2_sa at h
  by_cases h1 : id = 1
  · subst h1
    rw [if_pos rfl] at h
    cases h
    cases hA
    rfl
  rw [if_neg h1] at h
  cases h
set_option maxRecDepth 100000 in
theorem nW2_S : (∀ (S : NT × NT) (g : Nat → Int32), nW2_sa S 1 g = some ((S.1.sNoted g), S.2)) ∧
  True := by
  repeat' apply And.intro
  all_goals first | trivial | (intro S g; rfl)
def nW2_p1_1 (S : NT × NT) (id : Nat) (x : Int32) : Option (NT × NT) := if id = 0 then some ((S.1.sSize x), S.2) else none
theorem nW2_p1_1_ok : putOk nW2 1 1 nW2_p1_1 := by
  intro S id x S' h
  unfold nW2_p1_1 at h
  by_cases h0 : id = 0
  · subst h0
    rw [if_pos rfl] at h
    cases h
    exact ⟨_, rfl, Nat.le_of_ble_eq_true rfl, rfl⟩
  rw [if_neg h0] at h
  cases h
def nW2_p1_2 (S : NT × NT) (id : Nat) (x : Int32) : Option (NT × NT) := if id = 0 then some ((S.1.sFlow x), S.2) else none
theorem nW2_p1_2_ok : putOk nW2 1 2 nW2_p1_2 := by
  intro S id x S' h
  unfold nW2_p1_2 at h
  by_cases h0 : id = 0
  · subst h0
    rw [if_pos rfl] at h
    cases h
    exact ⟨_, rfl, Nat.le_of_ble_eq_true rfl, rfl⟩
  rw [if_neg h0] at h
  cases h
def nW2_p1_3 (S : NT × NT) (id : Nat) (x : Int32) : Option (NT × NT) := if id = 0 then some ((S.1.sAlarms x), S.2) else none
theorem nW2_p1_3_ok : putOk nW2 1 3 nW2_p1_3 := by
  intro S id x S' h
  unfold nW2_p1_3 at h
  by_cases h0 : id = 0
  · subst h0
    rw [if_pos rfl] at h
    cases h
    exact ⟨_, rfl, Nat.le_of_ble_eq_true rfl, rfl⟩
  rw [if_neg h0] at h
  cases h
set_option maxRecDepth 100000 in
theorem nW2_P : (∀ (S : NT × NT) (x : Int32), nW2_p1_1 S 0 x = some ((S.1.sSize x), S.2)) ∧
  (∀ (S : NT × NT) (x : Int32), nW2_p1_2 S 0 x = some ((S.1.sFlow x), S.2)) ∧
  (∀ (S : NT × NT) (x : Int32), nW2_p1_3 S 0 x = some ((S.1.sAlarms x), S.2)) := by
  repeat' apply And.intro
  all_goals (intro S x; rfl)
abbrev eW2 : ET × ET → xW := tw2 eW 5
set_option maxRecDepth 100000 in
theorem eW2_F : (∀ S : ET × ET, getF (eW2 S) 0 0 0 = some (.ref 1)) ∧
  (∀ S : ET × ET, getF (eW2 S) 0 0 1 = some (.ref 2)) ∧
  (∀ S : ET × ET, getF (eW2 S) 0 0 2 = some (.ref 3)) ∧
  (∀ S : ET × ET, getF (eW2 S) 0 0 3 = some (.ref 4)) ∧
  (∀ S : ET × ET, getF (eW2 S) 0 0 4 = some (.int S.1.all)) ∧
  (∀ S : ET × ET, getF (eW2 S) 0 5 0 = some (.ref 6)) ∧
  (∀ S : ET × ET, getF (eW2 S) 0 5 1 = some (.ref 7)) ∧
  (∀ S : ET × ET, getF (eW2 S) 0 5 2 = some (.ref 8)) ∧
  (∀ S : ET × ET, getF (eW2 S) 0 5 3 = some (.ref 9)) ∧
  (∀ S : ET × ET, getF (eW2 S) 0 5 4 = some (.int S.2.all)) := by
  repeat' apply And.intro
  all_goals (intro S; rfl)
set_option maxRecDepth 100000 in
theorem eW2_A : (∀ S : ET × ET, getA (eW2 S) 1 = some (0, 12, S.1.kinds)) ∧
  (∀ S : ET × ET, getA (eW2 S) 2 = some (0, 12, S.1.times)) ∧
  (∀ S : ET × ET, getA (eW2 S) 3 = some (0, 12, S.1.pumps)) ∧
  (∀ S : ET × ET, getA (eW2 S) 4 = some (0, 8, S.1.latest)) ∧
  (∀ S : ET × ET, getA (eW2 S) 6 = some (0, 12, S.2.kinds)) ∧
  (∀ S : ET × ET, getA (eW2 S) 7 = some (0, 12, S.2.times)) ∧
  (∀ S : ET × ET, getA (eW2 S) 8 = some (0, 12, S.2.pumps)) ∧
  (∀ S : ET × ET, getA (eW2 S) 9 = some (0, 8, S.2.latest)) := by
  repeat' apply And.intro
  all_goals (intro S; rfl)
def eW2_sa (S : ET × ET) (id : Nat) (g : Nat → Int32) : Option (ET × ET) := if id = 1 then some ((S.1.sKinds g), S.2) else if id = 2 then some ((S.1.sTimes g), S.2) else if id = 3 then some ((S.1.sPumps g), S.2) else if id = 4 then some ((S.1.sLatest g), S.2) else none
theorem eW2_sar : sarOk eW2 eW2_sa := by
  intro S id g S' t n f h hA
  unfold eW2_sa at h
  by_cases h1 : id = 1
  · subst h1
    rw [if_pos rfl] at h
    cases h
    cases hA
    rfl
  rw [if_neg h1] at h
  by_cases h2 : id = 2
  · subst h2
    rw [if_pos rfl] at h
    cases h
    cases hA
    rfl
  rw [if_neg h2] at h
  by_cases h3 : id = 3
  · subst h3
    rw [if_pos rfl] at h
    cases h
    cases hA
    rfl
  rw [if_neg h3] at h
  by_cases h4 : id = 4
  · subst h4
    rw [if_pos rfl] at h
    cases h
    cases hA
    rfl
  rw [if_neg h4] at h
  cases h
set_option maxRecDepth 100000 in
theorem eW2_S : (∀ (S : ET × ET) (g : Nat → Int32), eW2_sa S 1 g = some ((S.1.sKinds g), S.2)) ∧
  (∀ (S : ET × ET) (g : Nat → Int32), eW2_sa S 2 g = some ((S.1.sTimes g), S.2)) ∧
  (∀ (S : ET × ET) (g : Nat → Int32), eW2_sa S 3 g = some ((S.1.sPumps g), S.2)) ∧
  (∀ (S : ET × ET) (g : Nat → Int32), eW2_sa S 4 g = some ((S.1.sLatest g), S.2)) ∧
  True := by
  repeat' apply And.intro
  all_goals first | trivial | (intro S g; rfl)
def eW2_p0_4 (S : ET × ET) (id : Nat) (x : Int32) : Option (ET × ET) := if id = 0 then some ((S.1.sAll x), S.2) else none
theorem eW2_p0_4_ok : putOk eW2 0 4 eW2_p0_4 := by
  intro S id x S' h
  unfold eW2_p0_4 at h
  by_cases h0 : id = 0
  · subst h0
    rw [if_pos rfl] at h
    cases h
    exact ⟨_, rfl, Nat.le_of_ble_eq_true rfl, rfl⟩
  rw [if_neg h0] at h
  cases h
set_option maxRecDepth 100000 in
theorem eW2_P : (∀ (S : ET × ET) (x : Int32), eW2_p0_4 S 0 x = some ((S.1.sAll x), S.2)) := by
  repeat' apply And.intro
  all_goals (intro S x; rfl)
abbrev stW2 : ST × ST → xW := tw2 stW 24
set_option maxRecDepth 100000 in
theorem stW2_F : (∀ S : ST × ST, getF (stW2 S) 4 0 0 = some (.ref 1)) ∧
  (∀ S : ST × ST, getF (stW2 S) 4 0 1 = some (.ref 2)) ∧
  (∀ S : ST × ST, getF (stW2 S) 4 0 2 = some (.ref 11)) ∧
  (∀ S : ST × ST, getF (stW2 S) 4 0 3 = some (.ref 17)) ∧
  (∀ S : ST × ST, getF (stW2 S) 4 0 4 = some (.ref 19)) ∧
  (∀ S : ST × ST, getF (stW2 S) 4 0 5 = some (.int S.1.time)) ∧
  (∀ S : ST × ST, getF (stW2 S) 4 0 6 = some (.int S.1.pressure)) ∧
  (∀ S : ST × ST, getF (stW2 S) 4 0 7 = some (.int S.1.level)) ∧
  (∀ S : ST × ST, getF (stW2 S) 4 0 8 = some (.int S.1.leak)) ∧
  (∀ S : ST × ST, getF (stW2 S) 4 0 9 = some (.int S.1.supply)) ∧
  (∀ S : ST × ST, getF (stW2 S) 4 0 10 = some (.int S.1.allSupplied)) ∧
  (∀ S : ST × ST, getF (stW2 S) 4 0 11 = some (.int S.1.dry)) ∧
  (∀ S : ST × ST, getF (stW2 S) 4 0 12 = some (.int S.1.dryMinutes)) ∧
  (∀ S : ST × ST, getF (stW2 S) 4 0 13 = some (.int S.1.trips)) ∧
  (∀ S : ST × ST, getF (stW2 S) 4 0 14 = some (.int S.1.toStart)) ∧
  (∀ S : ST × ST, getF (stW2 S) 4 0 15 = some (.int S.1.toStop)) ∧
  (∀ S : ST × ST, getF (stW2 S) 4 0 16 = some (.int S.1.toSleep)) ∧
  (∀ S : ST × ST, getF (stW2 S) 4 24 0 = some (.ref 25)) ∧
  (∀ S : ST × ST, getF (stW2 S) 4 24 1 = some (.ref 26)) ∧
  (∀ S : ST × ST, getF (stW2 S) 4 24 2 = some (.ref 35)) ∧
  (∀ S : ST × ST, getF (stW2 S) 4 24 3 = some (.ref 41)) ∧
  (∀ S : ST × ST, getF (stW2 S) 4 24 4 = some (.ref 43)) ∧
  (∀ S : ST × ST, getF (stW2 S) 4 24 5 = some (.int S.2.time)) ∧
  (∀ S : ST × ST, getF (stW2 S) 4 24 6 = some (.int S.2.pressure)) ∧
  (∀ S : ST × ST, getF (stW2 S) 4 24 7 = some (.int S.2.level)) ∧
  (∀ S : ST × ST, getF (stW2 S) 4 24 8 = some (.int S.2.leak)) ∧
  (∀ S : ST × ST, getF (stW2 S) 4 24 9 = some (.int S.2.supply)) ∧
  (∀ S : ST × ST, getF (stW2 S) 4 24 10 = some (.int S.2.allSupplied)) ∧
  (∀ S : ST × ST, getF (stW2 S) 4 24 11 = some (.int S.2.dry)) ∧
  (∀ S : ST × ST, getF (stW2 S) 4 24 12 = some (.int S.2.dryMinutes)) ∧
  (∀ S : ST × ST, getF (stW2 S) 4 24 13 = some (.int S.2.trips)) ∧
  (∀ S : ST × ST, getF (stW2 S) 4 24 14 = some (.int S.2.toStart)) ∧
  (∀ S : ST × ST, getF (stW2 S) 4 24 15 = some (.int S.2.toStop)) ∧
  (∀ S : ST × ST, getF (stW2 S) 4 24 16 = some (.int S.2.toSleep)) := by
  repeat' apply And.intro
  all_goals (intro S; rfl)
set_option maxRecDepth 100000 in
theorem stW2_A : (∀ S : ST × ST, getA (stW2 S) 1 = some (0, 19, S.1.settings)) ∧
  (∀ S : ST × ST, getA (stW2 S) 25 = some (0, 19, S.2.settings)) := by
  repeat' apply And.intro
  all_goals (intro S; rfl)
def stW2_sa (S : ST × ST) (id : Nat) (g : Nat → Int32) : Option (ST × ST) := if id = 1 then some ((S.1.sSettings g), S.2) else none
theorem stW2_sar : sarOk stW2 stW2_sa := by
  intro S id g S' t n f h hA
  unfold stW2_sa at h
  by_cases h1 : id = 1
  · subst h1
    rw [if_pos rfl] at h
    cases h
    cases hA
    rfl
  rw [if_neg h1] at h
  cases h
set_option maxRecDepth 100000 in
theorem stW2_S : (∀ (S : ST × ST) (g : Nat → Int32), stW2_sa S 1 g = some ((S.1.sSettings g), S.2)) ∧
  True := by
  repeat' apply And.intro
  all_goals first | trivial | (intro S g; rfl)
def stW2_p4_5 (S : ST × ST) (id : Nat) (x : Int32) : Option (ST × ST) := if id = 0 then some ((S.1.sTime x), S.2) else none
theorem stW2_p4_5_ok : putOk stW2 4 5 stW2_p4_5 := by
  intro S id x S' h
  unfold stW2_p4_5 at h
  by_cases h0 : id = 0
  · subst h0
    rw [if_pos rfl] at h
    cases h
    exact ⟨_, rfl, Nat.le_of_ble_eq_true rfl, rfl⟩
  rw [if_neg h0] at h
  cases h
def stW2_p4_6 (S : ST × ST) (id : Nat) (x : Int32) : Option (ST × ST) := if id = 0 then some ((S.1.sPressure x), S.2) else none
theorem stW2_p4_6_ok : putOk stW2 4 6 stW2_p4_6 := by
  intro S id x S' h
  unfold stW2_p4_6 at h
  by_cases h0 : id = 0
  · subst h0
    rw [if_pos rfl] at h
    cases h
    exact ⟨_, rfl, Nat.le_of_ble_eq_true rfl, rfl⟩
  rw [if_neg h0] at h
  cases h
def stW2_p4_7 (S : ST × ST) (id : Nat) (x : Int32) : Option (ST × ST) := if id = 0 then some ((S.1.sLevel x), S.2) else none
theorem stW2_p4_7_ok : putOk stW2 4 7 stW2_p4_7 := by
  intro S id x S' h
  unfold stW2_p4_7 at h
  by_cases h0 : id = 0
  · subst h0
    rw [if_pos rfl] at h
    cases h
    exact ⟨_, rfl, Nat.le_of_ble_eq_true rfl, rfl⟩
  rw [if_neg h0] at h
  cases h
def stW2_p4_8 (S : ST × ST) (id : Nat) (x : Int32) : Option (ST × ST) := if id = 0 then some ((S.1.sLeak x), S.2) else none
theorem stW2_p4_8_ok : putOk stW2 4 8 stW2_p4_8 := by
  intro S id x S' h
  unfold stW2_p4_8 at h
  by_cases h0 : id = 0
  · subst h0
    rw [if_pos rfl] at h
    cases h
    exact ⟨_, rfl, Nat.le_of_ble_eq_true rfl, rfl⟩
  rw [if_neg h0] at h
  cases h
def stW2_p4_9 (S : ST × ST) (id : Nat) (x : Int32) : Option (ST × ST) := if id = 0 then some ((S.1.sSupply x), S.2) else none
theorem stW2_p4_9_ok : putOk stW2 4 9 stW2_p4_9 := by
  intro S id x S' h
  unfold stW2_p4_9 at h
  by_cases h0 : id = 0
  · subst h0
    rw [if_pos rfl] at h
    cases h
    exact ⟨_, rfl, Nat.le_of_ble_eq_true rfl, rfl⟩
  rw [if_neg h0] at h
  cases h
def stW2_p4_10 (S : ST × ST) (id : Nat) (x : Int32) : Option (ST × ST) := if id = 0 then some ((S.1.sAllSupplied x), S.2) else none
theorem stW2_p4_10_ok : putOk stW2 4 10 stW2_p4_10 := by
  intro S id x S' h
  unfold stW2_p4_10 at h
  by_cases h0 : id = 0
  · subst h0
    rw [if_pos rfl] at h
    cases h
    exact ⟨_, rfl, Nat.le_of_ble_eq_true rfl, rfl⟩
  rw [if_neg h0] at h
  cases h
def stW2_p4_11 (S : ST × ST) (id : Nat) (x : Int32) : Option (ST × ST) := if id = 0 then some ((S.1.sDry x), S.2) else none
theorem stW2_p4_11_ok : putOk stW2 4 11 stW2_p4_11 := by
  intro S id x S' h
  unfold stW2_p4_11 at h
  by_cases h0 : id = 0
  · subst h0
    rw [if_pos rfl] at h
    cases h
    exact ⟨_, rfl, Nat.le_of_ble_eq_true rfl, rfl⟩
  rw [if_neg h0] at h
  cases h
def stW2_p4_12 (S : ST × ST) (id : Nat) (x : Int32) : Option (ST × ST) := if id = 0 then some ((S.1.sDryMinutes x), S.2) else none
theorem stW2_p4_12_ok : putOk stW2 4 12 stW2_p4_12 := by
  intro S id x S' h
  unfold stW2_p4_12 at h
  by_cases h0 : id = 0
  · subst h0
    rw [if_pos rfl] at h
    cases h
    exact ⟨_, rfl, Nat.le_of_ble_eq_true rfl, rfl⟩
  rw [if_neg h0] at h
  cases h
def stW2_p4_13 (S : ST × ST) (id : Nat) (x : Int32) : Option (ST × ST) := if id = 0 then some ((S.1.sTrips x), S.2) else none
theorem stW2_p4_13_ok : putOk stW2 4 13 stW2_p4_13 := by
  intro S id x S' h
  unfold stW2_p4_13 at h
  by_cases h0 : id = 0
  · subst h0
    rw [if_pos rfl] at h
    cases h
    exact ⟨_, rfl, Nat.le_of_ble_eq_true rfl, rfl⟩
  rw [if_neg h0] at h
  cases h
def stW2_p4_14 (S : ST × ST) (id : Nat) (x : Int32) : Option (ST × ST) := if id = 0 then some ((S.1.sToStart x), S.2) else none
theorem stW2_p4_14_ok : putOk stW2 4 14 stW2_p4_14 := by
  intro S id x S' h
  unfold stW2_p4_14 at h
  by_cases h0 : id = 0
  · subst h0
    rw [if_pos rfl] at h
    cases h
    exact ⟨_, rfl, Nat.le_of_ble_eq_true rfl, rfl⟩
  rw [if_neg h0] at h
  cases h
def stW2_p4_15 (S : ST × ST) (id : Nat) (x : Int32) : Option (ST × ST) := if id = 0 then some ((S.1.sToStop x), S.2) else none
theorem stW2_p4_15_ok : putOk stW2 4 15 stW2_p4_15 := by
  intro S id x S' h
  unfold stW2_p4_15 at h
  by_cases h0 : id = 0
  · subst h0
    rw [if_pos rfl] at h
    cases h
    exact ⟨_, rfl, Nat.le_of_ble_eq_true rfl, rfl⟩
  rw [if_neg h0] at h
  cases h
def stW2_p4_16 (S : ST × ST) (id : Nat) (x : Int32) : Option (ST × ST) := if id = 0 then some ((S.1.sToSleep x), S.2) else none
theorem stW2_p4_16_ok : putOk stW2 4 16 stW2_p4_16 := by
  intro S id x S' h
  unfold stW2_p4_16 at h
  by_cases h0 : id = 0
  · subst h0
    rw [if_pos rfl] at h
    cases h
    exact ⟨_, rfl, Nat.le_of_ble_eq_true rfl, rfl⟩
  rw [if_neg h0] at h
  cases h
set_option maxRecDepth 100000 in
theorem stW2_P : (∀ (S : ST × ST) (x : Int32), stW2_p4_5 S 0 x = some ((S.1.sTime x), S.2)) ∧
  (∀ (S : ST × ST) (x : Int32), stW2_p4_6 S 0 x = some ((S.1.sPressure x), S.2)) ∧
  (∀ (S : ST × ST) (x : Int32), stW2_p4_7 S 0 x = some ((S.1.sLevel x), S.2)) ∧
  (∀ (S : ST × ST) (x : Int32), stW2_p4_8 S 0 x = some ((S.1.sLeak x), S.2)) ∧
  (∀ (S : ST × ST) (x : Int32), stW2_p4_9 S 0 x = some ((S.1.sSupply x), S.2)) ∧
  (∀ (S : ST × ST) (x : Int32), stW2_p4_10 S 0 x = some ((S.1.sAllSupplied x), S.2)) ∧
  (∀ (S : ST × ST) (x : Int32), stW2_p4_11 S 0 x = some ((S.1.sDry x), S.2)) ∧
  (∀ (S : ST × ST) (x : Int32), stW2_p4_12 S 0 x = some ((S.1.sDryMinutes x), S.2)) ∧
  (∀ (S : ST × ST) (x : Int32), stW2_p4_13 S 0 x = some ((S.1.sTrips x), S.2)) ∧
  (∀ (S : ST × ST) (x : Int32), stW2_p4_14 S 0 x = some ((S.1.sToStart x), S.2)) ∧
  (∀ (S : ST × ST) (x : Int32), stW2_p4_15 S 0 x = some ((S.1.sToStop x), S.2)) ∧
  (∀ (S : ST × ST) (x : Int32), stW2_p4_16 S 0 x = some ((S.1.sToSleep x), S.2)) := by
  repeat' apply And.intro
  all_goals (intro S x; rfl)
end
section
/-! ===== the places of two objects among the caller's ===== -/
theorem xcr_comp (ρ : Nat → Nat) (b : Nat) (c : xCell) : xcr ρ (xcr (fun i => b + i) c) = xcr (fun i => ρ (b + i)) c := by
  match c with
  | .inl a => rfl
  | .inr (.inl (ci, fs)) =>
    simp only [xcr, List.map_map]
    congr 3
    refine List.map_congr_left fun v _ => ?_
    cases v <;> rfl
  | .inr (.inr (n, f)) =>
    simp only [xcr]
    congr 3
    funext j
    cases f j <;> rfl
theorem sh_map (ρ : Nat → Nat) (b : Nat) (w : xW) : (sh b w).map (xcr ρ) = w.map (xcr (fun i => ρ (b + i))) := by
  rw [List.map_map]
  exact List.map_congr_left fun c _ => xcr_comp ρ b c
theorem sh_sh (a b : Nat) (w : xW) : sh a (sh b w) = sh (a + b) w := by
  rw [sh, sh_map]
  refine List.map_congr_left fun c _ => ?_
  congr 1
  funext i
  omega
theorem cut2 {α : Type} {A X B Y C : List α} {p q n : Nat} (hA : A.length = p) (hX : X.length = n) (hq : p + n + B.length = q) (hY : Y.length = n) : ((A ++ (X ++ (B ++ (Y ++ C)))).drop p).take n = X ∧ ((A ++ (X ++ (B ++ (Y ++ C)))).drop q).take n = Y := by
  refine ⟨by rw [List.drop_left' hA, List.take_left' hX], ?_⟩
  have e : A ++ (X ++ (B ++ (Y ++ C))) = (A ++ (X ++ B)) ++ (Y ++ C) := by simp only [List.append_assoc]
  rw [e, List.drop_left' (by simp only [List.length_append]; omega), List.take_left' hY]
theorem app_r {α : Type} {A R : List α} {p j : Nat} (hA : A.length = p) (h : p ≤ j) : (A ++ R)[j]? = R[j - p]? := by rw [List.getElem?_append_right (by omega), hA]
theorem app_l {α : Type} {A R : List α} {p j : Nat} (hA : A.length = p) (h : j < p) : (A ++ R)[j]? = A[j]? := List.getElem?_append_left (by omega)
theorem off2 {α : Type} {A X X' B Y Y' C : List α} {p q n : Nat} (hA : A.length = p) (hX : X.length = n) (hX' : X'.length = n) (hq : p + n + B.length = q) (hY : Y.length = n) (hY' : Y'.length = n) {j : Nat} (h1 : j < p ∨ p + n ≤ j) (h2 : j < q ∨ q + n ≤ j) : (A ++ (X' ++ (B ++ (Y' ++ C))))[j]? = (A ++ (X ++ (B ++ (Y ++ C))))[j]? := by
  by_cases a : j < p
  · exact (app_l hA a).trans (app_l hA a).symm
  · refine (app_r hA (by omega)).trans (Eq.trans ?_ (app_r hA (by omega)).symm)
    refine (app_r hX' (by omega)).trans (Eq.trans ?_ (app_r hX (by omega)).symm)
    by_cases b : j < q
    · exact (app_l rfl (by omega)).trans (app_l rfl (by omega)).symm
    · refine (app_r (p := q - p - n) (by omega) (by omega)).trans (Eq.trans ?_ (app_r (p := q - p - n) (by omega) (by omega)).symm)
      exact (app_r hY' (by omega)).trans (app_r hY (by omega)).symm
def wLoc {τ : Type} (toT : τ → xW) (n : Nat) : Prop := ∀ (a : τ) (ρ ρ' : Nat → Nat), (∀ i, i < n → ρ i = ρ' i) → (toT a).map (xcr ρ) = (toT a).map (xcr ρ')
theorem tw2_map {τ : Type} {toT : τ → xW} {n : Nat} (hc : wLoc toT n) (b1 b2 : Nat) (a b : τ) : (tw2 toT n (a, b)).map (xcr (r2 b1 b2 n)) = sh b1 (toT a) ++ sh b2 (toT b) := by
  show (toT a ++ sh n (toT b)).map _ = _
  rw [List.map_append, sh_map, hc a (r2 b1 b2 n) (fun i => b1 + i) (fun i hi => by unfold r2; rw [if_pos hi])]
  congr 1
  refine List.map_congr_left fun c _ => ?_
  congr 1
  funext i
  unfold r2
  rw [if_neg (by omega)]
  omega
theorem tw2_len {τ : Type} {toT : τ → xW} {n : Nat} (hl : ∀ a, (toT a).length = n) (u : τ × τ) : (tw2 toT n u).length = n + n := by
  simp only [tw2, sh, List.length_append, List.length_map, hl]
theorem Emb.pair {τ : Type} {toT : τ → xW} {n b1 b2 : Nat} (A B C : xW) {w w' : xW} {u u' : τ × τ} (hl : ∀ a, (toT a).length = n) (hc : wLoc toT n) (hA : A.length = b1) (hB : b1 + n + B.length = b2)
    (hw : w = A ++ (sh b1 (toT u.1) ++ (B ++ (sh b2 (toT u.2) ++ C)))) (hw' : w' = A ++ (sh b1 (toT u'.1) ++ (B ++ (sh b2 (toT u'.2) ++ C)))) : Emb (r2 b1 b2 n) w w' (tw2 toT n u) (tw2 toT n u') := by
  have hs : ∀ b a, (sh b (toT a)).length = n := fun b a => by simp only [sh, List.length_map, hl]
  have lw : ∀ {w : xW} {u : τ × τ}, w = A ++ (sh b1 (toT u.1) ++ (B ++ (sh b2 (toT u.2) ++ C))) → w.length = b1 + n + B.length + n + C.length := fun e => by
    rw [e]; simp only [List.length_append, hs, hA]; omega
  refine Emb.two (by omega) (tw2_len hl u) (tw2_len hl u') ((lw hw').trans (lw hw).symm) (by rw [lw hw]; omega) (by rw [lw hw]; omega) ?_ ?_ fun j h1 h2 => ?_
  · have h := cut2 (X := sh b1 (toT u.1)) (Y := sh b2 (toT u.2)) (C := C) hA (hs _ _) hB (hs _ _)
    rw [← hw] at h
    rw [h.1, h.2]
    exact tw2_map hc b1 b2 u.1 u.2
  · have h := cut2 (X := sh b1 (toT u'.1)) (Y := sh b2 (toT u'.2)) (C := C) hA (hs _ _) hB (hs _ _)
    rw [← hw'] at h
    rw [h.1, h.2]
    exact tw2_map hc b1 b2 u'.1 u'.2
  · rw [hw, hw']
    exact off2 hA (hs _ _) (hs _ _) hB (hs _ _) (hs _ _) h1 h2
theorem Emb.pair' {τ : Type} {toT : τ → xW} {n b1 b2 : Nat} (A B C : xW) {w w' : xW} {u u' : τ × τ} (hl : ∀ a, (toT a).length = n) (hc : wLoc toT n) (hA : A.length = b2) (hB : b2 + n + B.length = b1)
    (hw : w = A ++ (sh b2 (toT u.2) ++ (B ++ (sh b1 (toT u.1) ++ C)))) (hw' : w' = A ++ (sh b2 (toT u'.2) ++ (B ++ (sh b1 (toT u'.1) ++ C)))) : Emb (r2 b1 b2 n) w w' (tw2 toT n u) (tw2 toT n u') := by
  have hs : ∀ b a, (sh b (toT a)).length = n := fun b a => by simp only [sh, List.length_map, hl]
  have lw : ∀ {w : xW} {u : τ × τ}, w = A ++ (sh b2 (toT u.2) ++ (B ++ (sh b1 (toT u.1) ++ C))) → w.length = b2 + n + B.length + n + C.length := fun e => by
    rw [e]; simp only [List.length_append, hs, hA]; omega
  refine Emb.two (by omega) (tw2_len hl u) (tw2_len hl u') ((lw hw').trans (lw hw).symm) (by rw [lw hw]; omega) (by rw [lw hw]; omega) ?_ ?_ fun j h1 h2 => ?_
  · have h := cut2 (X := sh b2 (toT u.2)) (Y := sh b1 (toT u.1)) (C := C) hA (hs _ _) hB (hs _ _)
    rw [← hw] at h
    rw [h.1, h.2]
    exact tw2_map hc b1 b2 u.1 u.2
  · have h := cut2 (X := sh b2 (toT u'.2)) (Y := sh b1 (toT u'.1)) (C := C) hA (hs _ _) hB (hs _ _)
    rw [← hw'] at h
    rw [h.1, h.2]
    exact tw2_map hc b1 b2 u'.1 u'.2
  · rw [hw, hw']
    exact off2 hA (hs _ _) (hs _ _) hB (hs _ _) (hs _ _) h2 h1
theorem pW_loc : wLoc pW 9 := by
  intro S ρ ρ' h
  simp [pW, xcr, xrn, h 1 (by decide), h 2 (by decide), h 3 (by decide), h 4 (by decide), h 5 (by decide), h 6 (by decide), h 7 (by decide), h 8 (by decide)]
theorem zW_loc : wLoc zW 6 := by
  intro S ρ ρ' h
  simp [zW, xcr, xrn, h 1 (by decide), h 2 (by decide), h 3 (by decide), h 4 (by decide), h 5 (by decide)]
theorem nW_loc : wLoc nW 2 := by
  intro S ρ ρ' h
  simp [nW, xcr, xrn, h 1 (by decide)]
theorem eW_loc : wLoc eW 5 := by
  intro S ρ ρ' h
  simp [eW, xcr, xrn, h 1 (by decide), h 2 (by decide), h 3 (by decide), h 4 (by decide)]
def stH (S : ST) : xW := [.inr (.inl (4, [.ref 1, .ref 2, .ref 11, .ref 17, .ref 19, .int S.time, .int S.pressure, .int S.level, .int S.leak, .int S.supply, .int S.allSupplied, .int S.dry, .int S.dryMinutes, .int S.trips, .int S.toStart, .int S.toStop, .int S.toSleep])), .inl (0, 19, S.settings)]
theorem stW_eq (S : ST) : stW S = stH S ++ (sh 2 (pW S.P) ++ (sh 11 (zW S.Z) ++ (sh 17 (nW S.N) ++ sh 19 (eW S.E)))) := rfl
theorem stW_sh (b : Nat) (S : ST) : sh b (stW S) = sh b (stH S) ++ (sh (b + 2) (pW S.P) ++ (sh (b + 11) (zW S.Z) ++ (sh (b + 17) (nW S.N) ++ sh (b + 19) (eW S.E)))) := by
  rw [stW_eq]
  show List.map _ _ = _
  simp only [List.map_append]
  rw [← sh_sh, ← sh_sh, ← sh_sh, ← sh_sh]
theorem stW_loc : wLoc stW 24 := by
  intro S ρ ρ' h
  rw [stW_eq]
  simp only [List.map_append]
  rw [sh_map, sh_map, sh_map, sh_map, sh_map, sh_map, sh_map, sh_map, pW_loc S.P (fun i => ρ (2 + i)) (fun i => ρ' (2 + i)) (fun i hi => h _ (by omega)), zW_loc S.Z (fun i => ρ (11 + i)) (fun i => ρ' (11 + i)) (fun i hi => h _ (by omega)), nW_loc S.N (fun i => ρ (17 + i)) (fun i => ρ' (17 + i)) (fun i hi => h _ (by omega)), eW_loc S.E (fun i => ρ (19 + i)) (fun i => ρ' (19 + i)) (fun i hi => h _ (by omega))]
  simp [stH, xcr, xrn, h 1 (by decide), h 2 (by decide), h 11 (by decide), h 17 (by decide), h 19 (by decide)]
theorem stW2_eq (S : ST × ST) : stW2 S = stH S.1 ++ (sh 2 (pW S.1.P) ++ (sh 11 (zW S.1.Z) ++ (sh 17 (nW S.1.N) ++ (sh 19 (eW S.1.E) ++ (sh 24 (stH S.2) ++ (sh 26 (pW S.2.P) ++ (sh 35 (zW S.2.Z) ++ (sh 41 (nW S.2.N) ++ sh 43 (eW S.2.E))))))))) := by
  show stW S.1 ++ sh 24 (stW S.2) = _
  rw [stW_sh, stW_eq]
  simp only [List.append_assoc, Nat.reduceAdd]
def fpH (S : FT) : xW := [.inr (.inl (6, [.ref 1, .ref 25, .ref 49, .int S.states, .ref 50]))]
def fpM (S : FT) : xW := [.inr (.inr (4, S.perm))]
theorem fpW_eq (S : FT) : fpW S = fpH S ++ (sh 1 (stW S.now) ++ (sh 25 (stW S.trial) ++ (fpM S ++ (sh 50 (oW S.O) ++ (sh 52 (stW S.h0) ++ (sh 76 (stW S.h1) ++ (sh 100 (stW S.h2) ++ sh 124 (stW S.h3)))))))) := rfl
theorem ln2_st_P : Lens2 stW2 pW 2 26 9 (fun S : ST × ST => (S.1.P, S.2.P)) (fun S u => (S.1.sP u.1, S.2.sP u.2)) := fun S P' => Emb.pair (stH S.1) (sh 11 (zW S.1.Z) ++ (sh 17 (nW S.1.N) ++ (sh 19 (eW S.1.E) ++ (sh 24 (stH S.2))))) (sh 35 (zW S.2.Z) ++ (sh 41 (nW S.2.N) ++ (sh 43 (eW S.2.E)))) (fun _ => rfl) pW_loc rfl rfl ((stW2_eq S).trans (by simp only [List.append_assoc, List.append_nil])) ((stW2_eq _).trans (by simp only [List.append_assoc, List.append_nil]; rfl))
theorem ln2_st_Z : Lens2 stW2 zW 11 35 6 (fun S : ST × ST => (S.1.Z, S.2.Z)) (fun S u => (S.1.sZ u.1, S.2.sZ u.2)) := fun S P' => Emb.pair (stH S.1 ++ (sh 2 (pW S.1.P))) (sh 17 (nW S.1.N) ++ (sh 19 (eW S.1.E) ++ (sh 24 (stH S.2) ++ (sh 26 (pW S.2.P))))) (sh 41 (nW S.2.N) ++ (sh 43 (eW S.2.E))) (fun _ => rfl) zW_loc rfl rfl ((stW2_eq S).trans (by simp only [List.append_assoc, List.append_nil])) ((stW2_eq _).trans (by simp only [List.append_assoc, List.append_nil]; rfl))
theorem ln2_st_N : Lens2 stW2 nW 17 41 2 (fun S : ST × ST => (S.1.N, S.2.N)) (fun S u => (S.1.sN u.1, S.2.sN u.2)) := fun S P' => Emb.pair (stH S.1 ++ (sh 2 (pW S.1.P) ++ (sh 11 (zW S.1.Z)))) (sh 19 (eW S.1.E) ++ (sh 24 (stH S.2) ++ (sh 26 (pW S.2.P) ++ (sh 35 (zW S.2.Z))))) (sh 43 (eW S.2.E)) (fun _ => rfl) nW_loc rfl rfl ((stW2_eq S).trans (by simp only [List.append_assoc, List.append_nil])) ((stW2_eq _).trans (by simp only [List.append_assoc, List.append_nil]; rfl))
theorem ln2_st_E : Lens2 stW2 eW 19 43 5 (fun S : ST × ST => (S.1.E, S.2.E)) (fun S u => (S.1.sE u.1, S.2.sE u.2)) := fun S P' => Emb.pair (stH S.1 ++ (sh 2 (pW S.1.P) ++ (sh 11 (zW S.1.Z) ++ (sh 17 (nW S.1.N))))) (sh 24 (stH S.2) ++ (sh 26 (pW S.2.P) ++ (sh 35 (zW S.2.Z) ++ (sh 41 (nW S.2.N))))) [] (fun _ => rfl) eW_loc rfl rfl ((stW2_eq S).trans (by simp only [List.append_assoc, List.append_nil])) ((stW2_eq _).trans (by simp only [List.append_assoc, List.append_nil]; rfl))
theorem ln2_fp_now_trial : Lens2 fpW stW 1 25 24 (fun S : FT => (S.now, S.trial)) (fun S u => (S.sNow u.1).sTrial u.2) := fun S P' => Emb.pair (fpH S) [] (fpM S ++ (sh 50 (oW S.O) ++ (sh 52 (stW S.h0) ++ (sh 76 (stW S.h1) ++ (sh 100 (stW S.h2) ++ (sh 124 (stW S.h3))))))) (fun _ => rfl) stW_loc rfl rfl ((fpW_eq S).trans (by simp only [List.append_assoc, List.append_nil, List.nil_append])) ((fpW_eq _).trans (by simp only [List.append_assoc, List.append_nil, List.nil_append]; rfl))
theorem ln2_fp_trial_now : Lens2 fpW stW 25 1 24 (fun S : FT => (S.trial, S.now)) (fun S u => (S.sTrial u.1).sNow u.2) := fun S P' => Emb.pair' (fpH S) [] (fpM S ++ (sh 50 (oW S.O) ++ (sh 52 (stW S.h0) ++ (sh 76 (stW S.h1) ++ (sh 100 (stW S.h2) ++ (sh 124 (stW S.h3))))))) (fun _ => rfl) stW_loc rfl rfl ((fpW_eq S).trans (by simp only [List.append_assoc, List.append_nil, List.nil_append])) ((fpW_eq _).trans (by simp only [List.append_assoc, List.append_nil, List.nil_append]; rfl))
theorem ln2_fp_now_h0 : Lens2 fpW stW 1 52 24 (fun S : FT => (S.now, S.h0)) (fun S u => (S.sNow u.1).sH0 u.2) := fun S P' => Emb.pair (fpH S) (sh 25 (stW S.trial) ++ (fpM S ++ (sh 50 (oW S.O)))) (sh 76 (stW S.h1) ++ (sh 100 (stW S.h2) ++ (sh 124 (stW S.h3)))) (fun _ => rfl) stW_loc rfl rfl ((fpW_eq S).trans (by simp only [List.append_assoc, List.append_nil, List.nil_append])) ((fpW_eq _).trans (by simp only [List.append_assoc, List.append_nil, List.nil_append]; rfl))
theorem ln2_fp_h0_now : Lens2 fpW stW 52 1 24 (fun S : FT => (S.h0, S.now)) (fun S u => (S.sH0 u.1).sNow u.2) := fun S P' => Emb.pair' (fpH S) (sh 25 (stW S.trial) ++ (fpM S ++ (sh 50 (oW S.O)))) (sh 76 (stW S.h1) ++ (sh 100 (stW S.h2) ++ (sh 124 (stW S.h3)))) (fun _ => rfl) stW_loc rfl rfl ((fpW_eq S).trans (by simp only [List.append_assoc, List.append_nil, List.nil_append])) ((fpW_eq _).trans (by simp only [List.append_assoc, List.append_nil, List.nil_append]; rfl))
theorem ln2_fp_now_h1 : Lens2 fpW stW 1 76 24 (fun S : FT => (S.now, S.h1)) (fun S u => (S.sNow u.1).sH1 u.2) := fun S P' => Emb.pair (fpH S) (sh 25 (stW S.trial) ++ (fpM S ++ (sh 50 (oW S.O) ++ (sh 52 (stW S.h0))))) (sh 100 (stW S.h2) ++ (sh 124 (stW S.h3))) (fun _ => rfl) stW_loc rfl rfl ((fpW_eq S).trans (by simp only [List.append_assoc, List.append_nil, List.nil_append])) ((fpW_eq _).trans (by simp only [List.append_assoc, List.append_nil, List.nil_append]; rfl))
theorem ln2_fp_h1_now : Lens2 fpW stW 76 1 24 (fun S : FT => (S.h1, S.now)) (fun S u => (S.sH1 u.1).sNow u.2) := fun S P' => Emb.pair' (fpH S) (sh 25 (stW S.trial) ++ (fpM S ++ (sh 50 (oW S.O) ++ (sh 52 (stW S.h0))))) (sh 100 (stW S.h2) ++ (sh 124 (stW S.h3))) (fun _ => rfl) stW_loc rfl rfl ((fpW_eq S).trans (by simp only [List.append_assoc, List.append_nil, List.nil_append])) ((fpW_eq _).trans (by simp only [List.append_assoc, List.append_nil, List.nil_append]; rfl))
theorem ln2_fp_now_h2 : Lens2 fpW stW 1 100 24 (fun S : FT => (S.now, S.h2)) (fun S u => (S.sNow u.1).sH2 u.2) := fun S P' => Emb.pair (fpH S) (sh 25 (stW S.trial) ++ (fpM S ++ (sh 50 (oW S.O) ++ (sh 52 (stW S.h0) ++ (sh 76 (stW S.h1)))))) (sh 124 (stW S.h3)) (fun _ => rfl) stW_loc rfl rfl ((fpW_eq S).trans (by simp only [List.append_assoc, List.append_nil, List.nil_append])) ((fpW_eq _).trans (by simp only [List.append_assoc, List.append_nil, List.nil_append]; rfl))
theorem ln2_fp_h2_now : Lens2 fpW stW 100 1 24 (fun S : FT => (S.h2, S.now)) (fun S u => (S.sH2 u.1).sNow u.2) := fun S P' => Emb.pair' (fpH S) (sh 25 (stW S.trial) ++ (fpM S ++ (sh 50 (oW S.O) ++ (sh 52 (stW S.h0) ++ (sh 76 (stW S.h1)))))) (sh 124 (stW S.h3)) (fun _ => rfl) stW_loc rfl rfl ((fpW_eq S).trans (by simp only [List.append_assoc, List.append_nil, List.nil_append])) ((fpW_eq _).trans (by simp only [List.append_assoc, List.append_nil, List.nil_append]; rfl))
theorem ln2_fp_now_h3 : Lens2 fpW stW 1 124 24 (fun S : FT => (S.now, S.h3)) (fun S u => (S.sNow u.1).sH3 u.2) := fun S P' => Emb.pair (fpH S) (sh 25 (stW S.trial) ++ (fpM S ++ (sh 50 (oW S.O) ++ (sh 52 (stW S.h0) ++ (sh 76 (stW S.h1) ++ (sh 100 (stW S.h2))))))) [] (fun _ => rfl) stW_loc rfl rfl ((fpW_eq S).trans (by simp only [List.append_assoc, List.append_nil, List.nil_append])) ((fpW_eq _).trans (by simp only [List.append_assoc, List.append_nil, List.nil_append]; rfl))
theorem ln2_fp_h3_now : Lens2 fpW stW 124 1 24 (fun S : FT => (S.h3, S.now)) (fun S u => (S.sH3 u.1).sNow u.2) := fun S P' => Emb.pair' (fpH S) (sh 25 (stW S.trial) ++ (fpM S ++ (sh 50 (oW S.O) ++ (sh 52 (stW S.h0) ++ (sh 76 (stW S.h1) ++ (sh 100 (stW S.h2))))))) [] (fun _ => rfl) stW_loc rfl rfl ((fpW_eq S).trans (by simp only [List.append_assoc, List.append_nil, List.nil_append])) ((fpW_eq _).trans (by simp only [List.append_assoc, List.append_nil, List.nil_append]; rfl))
end
