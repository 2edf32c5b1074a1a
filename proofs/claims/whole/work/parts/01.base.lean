-- ===== PART A: goes FIRST, ahead of the names: the tables' words, and 'selects' of the private methods out of them =====
/-- a private method of a class that the tables say can be made, by its rows of tables_1 -/
def lw_okq (q : MethodName × Nat) : Prop := (q.1.cls ≠ "java/lang/invoke/MethodHandle" ∧ q.1.cls ≠ "java/lang/invoke/VarHandle") ∧ Cond.instantiable q.1.cls q.2 ∈ tables_1 ∧ Cond.privateMethod q.1 ∈ tables_1 ∧ Cond.instanceMethod q.1 ∈ tables_1
theorem lw_p0 : lw_okq (⟨"FieldPumps", "remember", "()V"⟩, 5) := ⟨⟨by decide +kernel, by decide +kernel⟩, List.mem_of_getElem? (i := 12) (by decide +kernel), List.mem_of_getElem? (i := 304) (by decide +kernel), List.mem_of_getElem? (i := 305) (by decide +kernel)⟩
theorem lw_p1 : lw_okq (⟨"FieldPumps$Station", "stop", "(I)Z"⟩, 17) := ⟨⟨by decide +kernel, by decide +kernel⟩, List.mem_of_getElem? (i := 20) (by decide +kernel), List.mem_of_getElem? (i := 357) (by decide +kernel), List.mem_of_getElem? (i := 358) (by decide +kernel)⟩
theorem lw_p2 : lw_okq (⟨"FieldPumps$Pumps", "nextVariable", "()I"⟩, 10) := ⟨⟨by decide +kernel, by decide +kernel⟩, List.mem_of_getElem? (i := 35) (by decide +kernel), List.mem_of_getElem? (i := 370) (by decide +kernel), List.mem_of_getElem? (i := 371) (by decide +kernel)⟩
theorem lw_p3 : lw_okq (⟨"FieldPumps$Pumps", "isReady", "(I)Z"⟩, 10) := ⟨⟨by decide +kernel, by decide +kernel⟩, List.mem_of_getElem? (i := 35) (by decide +kernel), List.mem_of_getElem? (i := 406) (by decide +kernel), List.mem_of_getElem? (i := 407) (by decide +kernel)⟩
theorem lw_p4 : lw_okq (⟨"FieldPumps$Pumps", "readyAhead", "(IZ)I"⟩, 10) := ⟨⟨by decide +kernel, by decide +kernel⟩, List.mem_of_getElem? (i := 35) (by decide +kernel), List.mem_of_getElem? (i := 410) (by decide +kernel), List.mem_of_getElem? (i := 411) (by decide +kernel)⟩
theorem lw_p5 : lw_okq (⟨"FieldPumps$Pumps", "isAhead", "(IIZ)Z"⟩, 10) := ⟨⟨by decide +kernel, by decide +kernel⟩, List.mem_of_getElem? (i := 35) (by decide +kernel), List.mem_of_getElem? (i := 414) (by decide +kernel), List.mem_of_getElem? (i := 415) (by decide +kernel)⟩
theorem lw_p6 : lw_okq (⟨"FieldPumps$Station", "goOnIfFilled", "()V"⟩, 17) := ⟨⟨by decide +kernel, by decide +kernel⟩, List.mem_of_getElem? (i := 20) (by decide +kernel), List.mem_of_getElem? (i := 489) (by decide +kernel), List.mem_of_getElem? (i := 490) (by decide +kernel)⟩
theorem lw_p7 : lw_okq (⟨"FieldPumps$Station", "moveWater", "()V"⟩, 17) := ⟨⟨by decide +kernel, by decide +kernel⟩, List.mem_of_getElem? (i := 20) (by decide +kernel), List.mem_of_getElem? (i := 506) (by decide +kernel), List.mem_of_getElem? (i := 507) (by decide +kernel)⟩
theorem lw_p8 : lw_okq (⟨"FieldPumps$Station", "watchNight", "()V"⟩, 17) := ⟨⟨by decide +kernel, by decide +kernel⟩, List.mem_of_getElem? (i := 20) (by decide +kernel), List.mem_of_getElem? (i := 534) (by decide +kernel), List.mem_of_getElem? (i := 535) (by decide +kernel)⟩
theorem lw_p9 : lw_okq (⟨"FieldPumps$Nights", "middle", "()I"⟩, 4) := ⟨⟨by decide +kernel, by decide +kernel⟩, List.mem_of_getElem? (i := 121) (by decide +kernel), List.mem_of_getElem? (i := 542) (by decide +kernel), List.mem_of_getElem? (i := 543) (by decide +kernel)⟩
theorem lw_p10 : lw_okq (⟨"FieldPumps$Station", "watchLevel", "()V"⟩, 17) := ⟨⟨by decide +kernel, by decide +kernel⟩, List.mem_of_getElem? (i := 20) (by decide +kernel), List.mem_of_getElem? (i := 551) (by decide +kernel), List.mem_of_getElem? (i := 552) (by decide +kernel)⟩
theorem lw_p11 : lw_okq (⟨"FieldPumps$Station", "beginMinutesAnew", "()V"⟩, 17) := ⟨⟨by decide +kernel, by decide +kernel⟩, List.mem_of_getElem? (i := 20) (by decide +kernel), List.mem_of_getElem? (i := 555) (by decide +kernel), List.mem_of_getElem? (i := 556) (by decide +kernel)⟩
theorem lw_p12 : lw_okq (⟨"FieldPumps$Station", "adjustSpeed", "()V"⟩, 17) := ⟨⟨by decide +kernel, by decide +kernel⟩, List.mem_of_getElem? (i := 20) (by decide +kernel), List.mem_of_getElem? (i := 559) (by decide +kernel), List.mem_of_getElem? (i := 560) (by decide +kernel)⟩
theorem lw_p13 : lw_okq (⟨"FieldPumps$Station", "wake", "()V"⟩, 17) := ⟨⟨by decide +kernel, by decide +kernel⟩, List.mem_of_getElem? (i := 20) (by decide +kernel), List.mem_of_getElem? (i := 567) (by decide +kernel), List.mem_of_getElem? (i := 568) (by decide +kernel)⟩
theorem lw_p14 : lw_okq (⟨"FieldPumps$Station", "start", "(II)V"⟩, 17) := ⟨⟨by decide +kernel, by decide +kernel⟩, List.mem_of_getElem? (i := 20) (by decide +kernel), List.mem_of_getElem? (i := 573) (by decide +kernel), List.mem_of_getElem? (i := 574) (by decide +kernel)⟩
theorem lw_p15 : lw_okq (⟨"FieldPumps$Station", "countMinutes", "()V"⟩, 17) := ⟨⟨by decide +kernel, by decide +kernel⟩, List.mem_of_getElem? (i := 20) (by decide +kernel), List.mem_of_getElem? (i := 581) (by decide +kernel), List.mem_of_getElem? (i := 582) (by decide +kernel)⟩
def lw_privs_1 : List (MethodName × Nat) := [(⟨"FieldPumps", "remember", "()V"⟩, 5), (⟨"FieldPumps$Station", "stop", "(I)Z"⟩, 17), (⟨"FieldPumps$Pumps", "nextVariable", "()I"⟩, 10), (⟨"FieldPumps$Pumps", "isReady", "(I)Z"⟩, 10), (⟨"FieldPumps$Pumps", "readyAhead", "(IZ)I"⟩, 10), (⟨"FieldPumps$Pumps", "isAhead", "(IIZ)Z"⟩, 10), (⟨"FieldPumps$Station", "goOnIfFilled", "()V"⟩, 17), (⟨"FieldPumps$Station", "moveWater", "()V"⟩, 17), (⟨"FieldPumps$Station", "watchNight", "()V"⟩, 17), (⟨"FieldPumps$Nights", "middle", "()I"⟩, 4), (⟨"FieldPumps$Station", "watchLevel", "()V"⟩, 17), (⟨"FieldPumps$Station", "beginMinutesAnew", "()V"⟩, 17), (⟨"FieldPumps$Station", "adjustSpeed", "()V"⟩, 17), (⟨"FieldPumps$Station", "wake", "()V"⟩, 17), (⟨"FieldPumps$Station", "start", "(II)V"⟩, 17), (⟨"FieldPumps$Station", "countMinutes", "()V"⟩, 17)]
theorem lw_r1 : ∀ q ∈ lw_privs_1, lw_okq q := List.forall_mem_cons.mpr ⟨lw_p0, List.forall_mem_cons.mpr ⟨lw_p1, List.forall_mem_cons.mpr ⟨lw_p2, List.forall_mem_cons.mpr ⟨lw_p3, List.forall_mem_cons.mpr ⟨lw_p4, List.forall_mem_cons.mpr ⟨lw_p5, List.forall_mem_cons.mpr ⟨lw_p6, List.forall_mem_cons.mpr ⟨lw_p7, List.forall_mem_cons.mpr ⟨lw_p8, List.forall_mem_cons.mpr ⟨lw_p9, List.forall_mem_cons.mpr ⟨lw_p10, List.forall_mem_cons.mpr ⟨lw_p11, List.forall_mem_cons.mpr ⟨lw_p12, List.forall_mem_cons.mpr ⟨lw_p13, List.forall_mem_cons.mpr ⟨lw_p14, List.forall_mem_cons.mpr ⟨lw_p15, fun _ h => absurd h List.not_mem_nil⟩⟩⟩⟩⟩⟩⟩⟩⟩⟩⟩⟩⟩⟩⟩⟩
theorem lw_p16 : lw_okq (⟨"FieldPumps$Station", "cascade", "()V"⟩, 17) := ⟨⟨by decide +kernel, by decide +kernel⟩, List.mem_of_getElem? (i := 20) (by decide +kernel), List.mem_of_getElem? (i := 589) (by decide +kernel), List.mem_of_getElem? (i := 590) (by decide +kernel)⟩
theorem lw_p17 : lw_okq (⟨"FieldPumps$Station", "rotate", "()V"⟩, 17) := ⟨⟨by decide +kernel, by decide +kernel⟩, List.mem_of_getElem? (i := 20) (by decide +kernel), List.mem_of_getElem? (i := 597) (by decide +kernel), List.mem_of_getElem? (i := 598) (by decide +kernel)⟩
theorem lw_p18 : lw_okq (⟨"FieldPumps", "tryOrders", "()I"⟩, 5) := ⟨⟨by decide +kernel, by decide +kernel⟩, List.mem_of_getElem? (i := 12) (by decide +kernel), List.mem_of_getElem? (i := 669) (by decide +kernel), List.mem_of_getElem? (i := 670) (by decide +kernel)⟩
theorem lw_p19 : lw_okq (⟨"FieldPumps$Orders", "has", "(I)Z"⟩, 7) := ⟨⟨by decide +kernel, by decide +kernel⟩, List.mem_of_getElem? (i := 242) (by decide +kernel), List.mem_of_getElem? (i := 685) (by decide +kernel), List.mem_of_getElem? (i := 686) (by decide +kernel)⟩
theorem lw_p20 : lw_okq (⟨"FieldPumps$Orders", "isLetterOfNumber", "()Z"⟩, 7) := ⟨⟨by decide +kernel, by decide +kernel⟩, List.mem_of_getElem? (i := 242) (by decide +kernel), List.mem_of_getElem? (i := 692) (by decide +kernel), List.mem_of_getElem? (i := 693) (by decide +kernel)⟩
theorem lw_p21 : lw_okq (⟨"FieldPumps", "tryOrder", "(CI)I"⟩, 5) := ⟨⟨by decide +kernel, by decide +kernel⟩, List.mem_of_getElem? (i := 12) (by decide +kernel), List.mem_of_getElem? (i := 696) (by decide +kernel), List.mem_of_getElem? (i := 697) (by decide +kernel)⟩
theorem lw_p22 : lw_okq (⟨"FieldPumps", "tryStoppingService", "(I)I"⟩, 5) := ⟨⟨by decide +kernel, by decide +kernel⟩, List.mem_of_getElem? (i := 12) (by decide +kernel), List.mem_of_getElem? (i := 700) (by decide +kernel), List.mem_of_getElem? (i := 701) (by decide +kernel)⟩
theorem lw_p23 : lw_okq (⟨"FieldPumps", "tryReset", "()I"⟩, 5) := ⟨⟨by decide +kernel, by decide +kernel⟩, List.mem_of_getElem? (i := 12) (by decide +kernel), List.mem_of_getElem? (i := 704) (by decide +kernel), List.mem_of_getElem? (i := 705) (by decide +kernel)⟩
theorem lw_p24 : lw_okq (⟨"FieldPumps", "tryZone", "(IZ)I"⟩, 5) := ⟨⟨by decide +kernel, by decide +kernel⟩, List.mem_of_getElem? (i := 12) (by decide +kernel), List.mem_of_getElem? (i := 708) (by decide +kernel), List.mem_of_getElem? (i := 709) (by decide +kernel)⟩
theorem lw_p25 : lw_okq (⟨"FieldPumpsModel", "save", "()V"⟩, 13) := ⟨⟨by decide +kernel, by decide +kernel⟩, List.mem_of_getElem? (i := 720) (by decide +kernel), List.mem_of_getElem? (i := 792) (by decide +kernel), List.mem_of_getElem? (i := 793) (by decide +kernel)⟩
theorem lw_p26 : lw_okq (⟨"FieldPumpsModel", "setting", "(I)I"⟩, 13) := ⟨⟨by decide +kernel, by decide +kernel⟩, List.mem_of_getElem? (i := 720) (by decide +kernel), List.mem_of_getElem? (i := 796) (by decide +kernel), List.mem_of_getElem? (i := 797) (by decide +kernel)⟩
theorem lw_p27 : lw_okq (⟨"FieldPumpsModel", "put", "(III)V"⟩, 13) := ⟨⟨by decide +kernel, by decide +kernel⟩, List.mem_of_getElem? (i := 720) (by decide +kernel), List.mem_of_getElem? (i := 807) (by decide +kernel), List.mem_of_getElem? (i := 808) (by decide +kernel)⟩
theorem lw_p28 : lw_okq (⟨"FieldPumpsModel", "isPump", "(I)Z"⟩, 13) := ⟨⟨by decide +kernel, by decide +kernel⟩, List.mem_of_getElem? (i := 720) (by decide +kernel), List.mem_of_getElem? (i := 815) (by decide +kernel), List.mem_of_getElem? (i := 816) (by decide +kernel)⟩
theorem lw_p29 : lw_okq (⟨"FieldPumpsModel", "of", "(II)I"⟩, 13) := ⟨⟨by decide +kernel, by decide +kernel⟩, List.mem_of_getElem? (i := 720) (by decide +kernel), List.mem_of_getElem? (i := 819) (by decide +kernel), List.mem_of_getElem? (i := 820) (by decide +kernel)⟩
theorem lw_p30 : lw_okq (⟨"FieldPumpsModel", "serves", "(II)I"⟩, 13) := ⟨⟨by decide +kernel, by decide +kernel⟩, List.mem_of_getElem? (i := 720) (by decide +kernel), List.mem_of_getElem? (i := 824) (by decide +kernel), List.mem_of_getElem? (i := 825) (by decide +kernel)⟩
theorem lw_p31 : lw_okq (⟨"FieldPumpsModel", "runs", "(I)Z"⟩, 13) := ⟨⟨by decide +kernel, by decide +kernel⟩, List.mem_of_getElem? (i := 720) (by decide +kernel), List.mem_of_getElem? (i := 828) (by decide +kernel), List.mem_of_getElem? (i := 829) (by decide +kernel)⟩
def lw_privs_2 : List (MethodName × Nat) := [(⟨"FieldPumps$Station", "cascade", "()V"⟩, 17), (⟨"FieldPumps$Station", "rotate", "()V"⟩, 17), (⟨"FieldPumps", "tryOrders", "()I"⟩, 5), (⟨"FieldPumps$Orders", "has", "(I)Z"⟩, 7), (⟨"FieldPumps$Orders", "isLetterOfNumber", "()Z"⟩, 7), (⟨"FieldPumps", "tryOrder", "(CI)I"⟩, 5), (⟨"FieldPumps", "tryStoppingService", "(I)I"⟩, 5), (⟨"FieldPumps", "tryReset", "()I"⟩, 5), (⟨"FieldPumps", "tryZone", "(IZ)I"⟩, 5), (⟨"FieldPumpsModel", "save", "()V"⟩, 13), (⟨"FieldPumpsModel", "setting", "(I)I"⟩, 13), (⟨"FieldPumpsModel", "put", "(III)V"⟩, 13), (⟨"FieldPumpsModel", "isPump", "(I)Z"⟩, 13), (⟨"FieldPumpsModel", "of", "(II)I"⟩, 13), (⟨"FieldPumpsModel", "serves", "(II)I"⟩, 13), (⟨"FieldPumpsModel", "runs", "(I)Z"⟩, 13)]
theorem lw_r2 : ∀ q ∈ lw_privs_2, lw_okq q := List.forall_mem_cons.mpr ⟨lw_p16, List.forall_mem_cons.mpr ⟨lw_p17, List.forall_mem_cons.mpr ⟨lw_p18, List.forall_mem_cons.mpr ⟨lw_p19, List.forall_mem_cons.mpr ⟨lw_p20, List.forall_mem_cons.mpr ⟨lw_p21, List.forall_mem_cons.mpr ⟨lw_p22, List.forall_mem_cons.mpr ⟨lw_p23, List.forall_mem_cons.mpr ⟨lw_p24, List.forall_mem_cons.mpr ⟨lw_p25, List.forall_mem_cons.mpr ⟨lw_p26, List.forall_mem_cons.mpr ⟨lw_p27, List.forall_mem_cons.mpr ⟨lw_p28, List.forall_mem_cons.mpr ⟨lw_p29, List.forall_mem_cons.mpr ⟨lw_p30, List.forall_mem_cons.mpr ⟨lw_p31, fun _ h => absurd h List.not_mem_nil⟩⟩⟩⟩⟩⟩⟩⟩⟩⟩⟩⟩⟩⟩⟩⟩
theorem lw_p32 : lw_okq (⟨"FieldPumpsModel", "stop", "(I)V"⟩, 13) := ⟨⟨by decide +kernel, by decide +kernel⟩, List.mem_of_getElem? (i := 720) (by decide +kernel), List.mem_of_getElem? (i := 832) (by decide +kernel), List.mem_of_getElem? (i := 833) (by decide +kernel)⟩
theorem lw_p33 : lw_okq (⟨"FieldPumpsModel", "nextVariable", "()I"⟩, 13) := ⟨⟨by decide +kernel, by decide +kernel⟩, List.mem_of_getElem? (i := 720) (by decide +kernel), List.mem_of_getElem? (i := 836) (by decide +kernel), List.mem_of_getElem? (i := 837) (by decide +kernel)⟩
theorem lw_p34 : lw_okq (⟨"FieldPumpsModel", "event", "(II)V"⟩, 13) := ⟨⟨by decide +kernel, by decide +kernel⟩, List.mem_of_getElem? (i := 720) (by decide +kernel), List.mem_of_getElem? (i := 840) (by decide +kernel), List.mem_of_getElem? (i := 841) (by decide +kernel)⟩
theorem lw_p35 : lw_okq (⟨"FieldPumpsModel", "flow", "(III)I"⟩, 13) := ⟨⟨by decide +kernel, by decide +kernel⟩, List.mem_of_getElem? (i := 720) (by decide +kernel), List.mem_of_getElem? (i := 849) (by decide +kernel), List.mem_of_getElem? (i := 850) (by decide +kernel)⟩
theorem lw_p36 : lw_okq (⟨"FieldPumpsModel", "ready", "(I)I"⟩, 13) := ⟨⟨by decide +kernel, by decide +kernel⟩, List.mem_of_getElem? (i := 720) (by decide +kernel), List.mem_of_getElem? (i := 865) (by decide +kernel), List.mem_of_getElem? (i := 866) (by decide +kernel)⟩
theorem lw_p37 : lw_okq (⟨"FieldPumpsModel", "isReady", "(I)Z"⟩, 13) := ⟨⟨by decide +kernel, by decide +kernel⟩, List.mem_of_getElem? (i := 720) (by decide +kernel), List.mem_of_getElem? (i := 869) (by decide +kernel), List.mem_of_getElem? (i := 870) (by decide +kernel)⟩
theorem lw_p38 : lw_okq (⟨"FieldPumpsModel", "isAhead", "(II)Z"⟩, 13) := ⟨⟨by decide +kernel, by decide +kernel⟩, List.mem_of_getElem? (i := 720) (by decide +kernel), List.mem_of_getElem? (i := 873) (by decide +kernel), List.mem_of_getElem? (i := 874) (by decide +kernel)⟩
theorem lw_p39 : lw_okq (⟨"FieldPumpsModel", "running", "()I"⟩, 13) := ⟨⟨by decide +kernel, by decide +kernel⟩, List.mem_of_getElem? (i := 720) (by decide +kernel), List.mem_of_getElem? (i := 877) (by decide +kernel), List.mem_of_getElem? (i := 878) (by decide +kernel)⟩
theorem lw_p40 : lw_okq (⟨"FieldPumpsModel", "isZone", "(I)Z"⟩, 13) := ⟨⟨by decide +kernel, by decide +kernel⟩, List.mem_of_getElem? (i := 720) (by decide +kernel), List.mem_of_getElem? (i := 894) (by decide +kernel), List.mem_of_getElem? (i := 895) (by decide +kernel)⟩
theorem lw_p41 : lw_okq (⟨"FieldPumpsModel", "isOpen", "(I)Z"⟩, 13) := ⟨⟨by decide +kernel, by decide +kernel⟩, List.mem_of_getElem? (i := 720) (by decide +kernel), List.mem_of_getElem? (i := 898) (by decide +kernel), List.mem_of_getElem? (i := 899) (by decide +kernel)⟩
theorem lw_p42 : lw_okq (⟨"FieldPumpsModel", "openZones", "()I"⟩, 13) := ⟨⟨by decide +kernel, by decide +kernel⟩, List.mem_of_getElem? (i := 720) (by decide +kernel), List.mem_of_getElem? (i := 902) (by decide +kernel), List.mem_of_getElem? (i := 903) (by decide +kernel)⟩
theorem lw_p43 : lw_okq (⟨"FieldPumpsModel", "takes", "(I)I"⟩, 13) := ⟨⟨by decide +kernel, by decide +kernel⟩, List.mem_of_getElem? (i := 720) (by decide +kernel), List.mem_of_getElem? (i := 919) (by decide +kernel), List.mem_of_getElem? (i := 920) (by decide +kernel)⟩
theorem lw_p44 : lw_okq (⟨"FieldPumpsModel", "resets", "()I"⟩, 13) := ⟨⟨by decide +kernel, by decide +kernel⟩, List.mem_of_getElem? (i := 720) (by decide +kernel), List.mem_of_getElem? (i := 932) (by decide +kernel), List.mem_of_getElem? (i := 933) (by decide +kernel)⟩
theorem lw_p45 : lw_okq (⟨"FieldPumpsModel", "passFault", "(I)I"⟩, 13) := ⟨⟨by decide +kernel, by decide +kernel⟩, List.mem_of_getElem? (i := 720) (by decide +kernel), List.mem_of_getElem? (i := 940) (by decide +kernel), List.mem_of_getElem? (i := 941) (by decide +kernel)⟩
theorem lw_p46 : lw_okq (⟨"FieldPumpsModel", "minutes", "(I)V"⟩, 13) := ⟨⟨by decide +kernel, by decide +kernel⟩, List.mem_of_getElem? (i := 720) (by decide +kernel), List.mem_of_getElem? (i := 945) (by decide +kernel), List.mem_of_getElem? (i := 946) (by decide +kernel)⟩
theorem lw_p47 : lw_okq (⟨"FieldPumpsModel", "minute", "()V"⟩, 13) := ⟨⟨by decide +kernel, by decide +kernel⟩, List.mem_of_getElem? (i := 720) (by decide +kernel), List.mem_of_getElem? (i := 949) (by decide +kernel), List.mem_of_getElem? (i := 950) (by decide +kernel)⟩
def lw_privs_3 : List (MethodName × Nat) := [(⟨"FieldPumpsModel", "stop", "(I)V"⟩, 13), (⟨"FieldPumpsModel", "nextVariable", "()I"⟩, 13), (⟨"FieldPumpsModel", "event", "(II)V"⟩, 13), (⟨"FieldPumpsModel", "flow", "(III)I"⟩, 13), (⟨"FieldPumpsModel", "ready", "(I)I"⟩, 13), (⟨"FieldPumpsModel", "isReady", "(I)Z"⟩, 13), (⟨"FieldPumpsModel", "isAhead", "(II)Z"⟩, 13), (⟨"FieldPumpsModel", "running", "()I"⟩, 13), (⟨"FieldPumpsModel", "isZone", "(I)Z"⟩, 13), (⟨"FieldPumpsModel", "isOpen", "(I)Z"⟩, 13), (⟨"FieldPumpsModel", "openZones", "()I"⟩, 13), (⟨"FieldPumpsModel", "takes", "(I)I"⟩, 13), (⟨"FieldPumpsModel", "resets", "()I"⟩, 13), (⟨"FieldPumpsModel", "passFault", "(I)I"⟩, 13), (⟨"FieldPumpsModel", "minutes", "(I)V"⟩, 13), (⟨"FieldPumpsModel", "minute", "()V"⟩, 13)]
theorem lw_r3 : ∀ q ∈ lw_privs_3, lw_okq q := List.forall_mem_cons.mpr ⟨lw_p32, List.forall_mem_cons.mpr ⟨lw_p33, List.forall_mem_cons.mpr ⟨lw_p34, List.forall_mem_cons.mpr ⟨lw_p35, List.forall_mem_cons.mpr ⟨lw_p36, List.forall_mem_cons.mpr ⟨lw_p37, List.forall_mem_cons.mpr ⟨lw_p38, List.forall_mem_cons.mpr ⟨lw_p39, List.forall_mem_cons.mpr ⟨lw_p40, List.forall_mem_cons.mpr ⟨lw_p41, List.forall_mem_cons.mpr ⟨lw_p42, List.forall_mem_cons.mpr ⟨lw_p43, List.forall_mem_cons.mpr ⟨lw_p44, List.forall_mem_cons.mpr ⟨lw_p45, List.forall_mem_cons.mpr ⟨lw_p46, List.forall_mem_cons.mpr ⟨lw_p47, fun _ h => absurd h List.not_mem_nil⟩⟩⟩⟩⟩⟩⟩⟩⟩⟩⟩⟩⟩⟩⟩⟩
theorem lw_p48 : lw_okq (⟨"FieldPumpsModel", "programmes", "()V"⟩, 13) := ⟨⟨by decide +kernel, by decide +kernel⟩, List.mem_of_getElem? (i := 720) (by decide +kernel), List.mem_of_getElem? (i := 953) (by decide +kernel), List.mem_of_getElem? (i := 954) (by decide +kernel)⟩
theorem lw_p49 : lw_okq (⟨"FieldPumpsModel", "minuteOfDay", "()I"⟩, 13) := ⟨⟨by decide +kernel, by decide +kernel⟩, List.mem_of_getElem? (i := 720) (by decide +kernel), List.mem_of_getElem? (i := 957) (by decide +kernel), List.mem_of_getElem? (i := 958) (by decide +kernel)⟩
theorem lw_p50 : lw_okq (⟨"FieldPumpsModel", "water", "()V"⟩, 13) := ⟨⟨by decide +kernel, by decide +kernel⟩, List.mem_of_getElem? (i := 720) (by decide +kernel), List.mem_of_getElem? (i := 961) (by decide +kernel), List.mem_of_getElem? (i := 962) (by decide +kernel)⟩
theorem lw_p51 : lw_okq (⟨"FieldPumpsModel", "demand", "()I"⟩, 13) := ⟨⟨by decide +kernel, by decide +kernel⟩, List.mem_of_getElem? (i := 720) (by decide +kernel), List.mem_of_getElem? (i := 968) (by decide +kernel), List.mem_of_getElem? (i := 969) (by decide +kernel)⟩
theorem lw_p52 : lw_okq (⟨"FieldPumpsModel", "night", "()V"⟩, 13) := ⟨⟨by decide +kernel, by decide +kernel⟩, List.mem_of_getElem? (i := 720) (by decide +kernel), List.mem_of_getElem? (i := 972) (by decide +kernel), List.mem_of_getElem? (i := 973) (by decide +kernel)⟩
theorem lw_p53 : lw_okq (⟨"FieldPumpsModel", "middleNight", "()I"⟩, 13) := ⟨⟨by decide +kernel, by decide +kernel⟩, List.mem_of_getElem? (i := 720) (by decide +kernel), List.mem_of_getElem? (i := 976) (by decide +kernel), List.mem_of_getElem? (i := 977) (by decide +kernel)⟩
theorem lw_p54 : lw_okq (⟨"FieldPumpsModel", "dryness", "()V"⟩, 13) := ⟨⟨by decide +kernel, by decide +kernel⟩, List.mem_of_getElem? (i := 720) (by decide +kernel), List.mem_of_getElem? (i := 980) (by decide +kernel), List.mem_of_getElem? (i := 981) (by decide +kernel)⟩
theorem lw_p55 : lw_okq (⟨"FieldPumpsModel", "beginAnew", "()V"⟩, 13) := ⟨⟨by decide +kernel, by decide +kernel⟩, List.mem_of_getElem? (i := 720) (by decide +kernel), List.mem_of_getElem? (i := 984) (by decide +kernel), List.mem_of_getElem? (i := 985) (by decide +kernel)⟩
theorem lw_p56 : lw_okq (⟨"FieldPumpsModel", "regulate", "()V"⟩, 13) := ⟨⟨by decide +kernel, by decide +kernel⟩, List.mem_of_getElem? (i := 720) (by decide +kernel), List.mem_of_getElem? (i := 988) (by decide +kernel), List.mem_of_getElem? (i := 989) (by decide +kernel)⟩
theorem lw_p57 : lw_okq (⟨"FieldPumpsModel", "start", "(I)V"⟩, 13) := ⟨⟨by decide +kernel, by decide +kernel⟩, List.mem_of_getElem? (i := 720) (by decide +kernel), List.mem_of_getElem? (i := 992) (by decide +kernel), List.mem_of_getElem? (i := 993) (by decide +kernel)⟩
theorem lw_p58 : lw_okq (⟨"FieldPumpsModel", "begins", "(IIZ)V"⟩, 13) := ⟨⟨by decide +kernel, by decide +kernel⟩, List.mem_of_getElem? (i := 720) (by decide +kernel), List.mem_of_getElem? (i := 996) (by decide +kernel), List.mem_of_getElem? (i := 997) (by decide +kernel)⟩
theorem lw_p59 : lw_okq (⟨"FieldPumpsModel", "countAll", "()V"⟩, 13) := ⟨⟨by decide +kernel, by decide +kernel⟩, List.mem_of_getElem? (i := 720) (by decide +kernel), List.mem_of_getElem? (i := 1000) (by decide +kernel), List.mem_of_getElem? (i := 1001) (by decide +kernel)⟩
theorem lw_p60 : lw_okq (⟨"FieldPumpsModel", "speedOfVariable", "()I"⟩, 13) := ⟨⟨by decide +kernel, by decide +kernel⟩, List.mem_of_getElem? (i := 720) (by decide +kernel), List.mem_of_getElem? (i := 1004) (by decide +kernel), List.mem_of_getElem? (i := 1005) (by decide +kernel)⟩
theorem lw_p61 : lw_okq (⟨"FieldPumpsModel", "counts", "(IZ)V"⟩, 13) := ⟨⟨by decide +kernel, by decide +kernel⟩, List.mem_of_getElem? (i := 720) (by decide +kernel), List.mem_of_getElem? (i := 1008) (by decide +kernel), List.mem_of_getElem? (i := 1009) (by decide +kernel)⟩
theorem lw_p62 : lw_okq (⟨"FieldPumpsModel", "cascade", "()V"⟩, 13) := ⟨⟨by decide +kernel, by decide +kernel⟩, List.mem_of_getElem? (i := 720) (by decide +kernel), List.mem_of_getElem? (i := 1012) (by decide +kernel), List.mem_of_getElem? (i := 1013) (by decide +kernel)⟩
theorem lw_p63 : lw_okq (⟨"FieldPumpsModel", "longest", "()I"⟩, 13) := ⟨⟨by decide +kernel, by decide +kernel⟩, List.mem_of_getElem? (i := 720) (by decide +kernel), List.mem_of_getElem? (i := 1016) (by decide +kernel), List.mem_of_getElem? (i := 1017) (by decide +kernel)⟩
def lw_privs_4 : List (MethodName × Nat) := [(⟨"FieldPumpsModel", "programmes", "()V"⟩, 13), (⟨"FieldPumpsModel", "minuteOfDay", "()I"⟩, 13), (⟨"FieldPumpsModel", "water", "()V"⟩, 13), (⟨"FieldPumpsModel", "demand", "()I"⟩, 13), (⟨"FieldPumpsModel", "night", "()V"⟩, 13), (⟨"FieldPumpsModel", "middleNight", "()I"⟩, 13), (⟨"FieldPumpsModel", "dryness", "()V"⟩, 13), (⟨"FieldPumpsModel", "beginAnew", "()V"⟩, 13), (⟨"FieldPumpsModel", "regulate", "()V"⟩, 13), (⟨"FieldPumpsModel", "start", "(I)V"⟩, 13), (⟨"FieldPumpsModel", "begins", "(IIZ)V"⟩, 13), (⟨"FieldPumpsModel", "countAll", "()V"⟩, 13), (⟨"FieldPumpsModel", "speedOfVariable", "()I"⟩, 13), (⟨"FieldPumpsModel", "counts", "(IZ)V"⟩, 13), (⟨"FieldPumpsModel", "cascade", "()V"⟩, 13), (⟨"FieldPumpsModel", "longest", "()I"⟩, 13)]
theorem lw_r4 : ∀ q ∈ lw_privs_4, lw_okq q := List.forall_mem_cons.mpr ⟨lw_p48, List.forall_mem_cons.mpr ⟨lw_p49, List.forall_mem_cons.mpr ⟨lw_p50, List.forall_mem_cons.mpr ⟨lw_p51, List.forall_mem_cons.mpr ⟨lw_p52, List.forall_mem_cons.mpr ⟨lw_p53, List.forall_mem_cons.mpr ⟨lw_p54, List.forall_mem_cons.mpr ⟨lw_p55, List.forall_mem_cons.mpr ⟨lw_p56, List.forall_mem_cons.mpr ⟨lw_p57, List.forall_mem_cons.mpr ⟨lw_p58, List.forall_mem_cons.mpr ⟨lw_p59, List.forall_mem_cons.mpr ⟨lw_p60, List.forall_mem_cons.mpr ⟨lw_p61, List.forall_mem_cons.mpr ⟨lw_p62, List.forall_mem_cons.mpr ⟨lw_p63, fun _ h => absurd h List.not_mem_nil⟩⟩⟩⟩⟩⟩⟩⟩⟩⟩⟩⟩⟩⟩⟩⟩
theorem lw_p64 : lw_okq (⟨"FieldPumpsModel", "rotate", "()V"⟩, 13) := ⟨⟨by decide +kernel, by decide +kernel⟩, List.mem_of_getElem? (i := 720) (by decide +kernel), List.mem_of_getElem? (i := 1020) (by decide +kernel), List.mem_of_getElem? (i := 1021) (by decide +kernel)⟩
theorem lw_p65 : lw_okq (⟨"FieldPumpsModel", "layAside", "()V"⟩, 13) := ⟨⟨by decide +kernel, by decide +kernel⟩, List.mem_of_getElem? (i := 720) (by decide +kernel), List.mem_of_getElem? (i := 1029) (by decide +kernel), List.mem_of_getElem? (i := 1030) (by decide +kernel)⟩
theorem lw_p66 : lw_okq (⟨"FieldPumpsModel", "takeBack", "()V"⟩, 13) := ⟨⟨by decide +kernel, by decide +kernel⟩, List.mem_of_getElem? (i := 720) (by decide +kernel), List.mem_of_getElem? (i := 1033) (by decide +kernel), List.mem_of_getElem? (i := 1034) (by decide +kernel)⟩
theorem lw_p67 : lw_okq (⟨"FieldPumpsModel", "readyPumps", "()I"⟩, 13) := ⟨⟨by decide +kernel, by decide +kernel⟩, List.mem_of_getElem? (i := 720) (by decide +kernel), List.mem_of_getElem? (i := 1059) (by decide +kernel), List.mem_of_getElem? (i := 1060) (by decide +kernel)⟩
theorem lw_p68 : lw_okq (⟨"FieldPumpsModel", "tryOrders", "()V"⟩, 13) := ⟨⟨by decide +kernel, by decide +kernel⟩, List.mem_of_getElem? (i := 720) (by decide +kernel), List.mem_of_getElem? (i := 1083) (by decide +kernel), List.mem_of_getElem? (i := 1084) (by decide +kernel)⟩
theorem lw_p69 : lw_okq (⟨"FieldPumpsModel", "doOrders", "()V"⟩, 13) := ⟨⟨by decide +kernel, by decide +kernel⟩, List.mem_of_getElem? (i := 720) (by decide +kernel), List.mem_of_getElem? (i := 1087) (by decide +kernel), List.mem_of_getElem? (i := 1088) (by decide +kernel)⟩
theorem lw_p70 : lw_okq (⟨"FieldPumpsModel", "readsOrder", "()Z"⟩, 13) := ⟨⟨by decide +kernel, by decide +kernel⟩, List.mem_of_getElem? (i := 720) (by decide +kernel), List.mem_of_getElem? (i := 1091) (by decide +kernel), List.mem_of_getElem? (i := 1092) (by decide +kernel)⟩
theorem lw_p71 : lw_okq (⟨"FieldPumpsModel", "here", "()I"⟩, 13) := ⟨⟨by decide +kernel, by decide +kernel⟩, List.mem_of_getElem? (i := 720) (by decide +kernel), List.mem_of_getElem? (i := 1095) (by decide +kernel), List.mem_of_getElem? (i := 1096) (by decide +kernel)⟩
theorem lw_p72 : lw_okq (⟨"FieldPumpsModel", "reasonOfOrder", "()I"⟩, 13) := ⟨⟨by decide +kernel, by decide +kernel⟩, List.mem_of_getElem? (i := 720) (by decide +kernel), List.mem_of_getElem? (i := 1101) (by decide +kernel), List.mem_of_getElem? (i := 1102) (by decide +kernel)⟩
theorem lw_p73 : lw_okq (⟨"FieldPumpsModel", "does", "()V"⟩, 13) := ⟨⟨by decide +kernel, by decide +kernel⟩, List.mem_of_getElem? (i := 720) (by decide +kernel), List.mem_of_getElem? (i := 1105) (by decide +kernel), List.mem_of_getElem? (i := 1106) (by decide +kernel)⟩
def lw_privs_5 : List (MethodName × Nat) := [(⟨"FieldPumpsModel", "rotate", "()V"⟩, 13), (⟨"FieldPumpsModel", "layAside", "()V"⟩, 13), (⟨"FieldPumpsModel", "takeBack", "()V"⟩, 13), (⟨"FieldPumpsModel", "readyPumps", "()I"⟩, 13), (⟨"FieldPumpsModel", "tryOrders", "()V"⟩, 13), (⟨"FieldPumpsModel", "doOrders", "()V"⟩, 13), (⟨"FieldPumpsModel", "readsOrder", "()Z"⟩, 13), (⟨"FieldPumpsModel", "here", "()I"⟩, 13), (⟨"FieldPumpsModel", "reasonOfOrder", "()I"⟩, 13), (⟨"FieldPumpsModel", "does", "()V"⟩, 13)]
theorem lw_r5 : ∀ q ∈ lw_privs_5, lw_okq q := List.forall_mem_cons.mpr ⟨lw_p64, List.forall_mem_cons.mpr ⟨lw_p65, List.forall_mem_cons.mpr ⟨lw_p66, List.forall_mem_cons.mpr ⟨lw_p67, List.forall_mem_cons.mpr ⟨lw_p68, List.forall_mem_cons.mpr ⟨lw_p69, List.forall_mem_cons.mpr ⟨lw_p70, List.forall_mem_cons.mpr ⟨lw_p71, List.forall_mem_cons.mpr ⟨lw_p72, List.forall_mem_cons.mpr ⟨lw_p73, fun _ h => absurd h List.not_mem_nil⟩⟩⟩⟩⟩⟩⟩⟩⟩⟩
def lw_privs : List (MethodName × Nat) := lw_privs_1 ++ (lw_privs_2 ++ (lw_privs_3 ++ (lw_privs_4 ++ (lw_privs_5))))
def lw_tbl : List Cond := k2_sels lw_privs ++ tables_1
theorem lw_privs_ok : ∀ q ∈ lw_privs, lw_okq q := by
  show ∀ q ∈ lw_privs_1 ++ (lw_privs_2 ++ (lw_privs_3 ++ (lw_privs_4 ++ (lw_privs_5)))), lw_okq q
  exact List.forall_mem_append.mpr ⟨lw_r1, List.forall_mem_append.mpr ⟨lw_r2, List.forall_mem_append.mpr ⟨lw_r3, List.forall_mem_append.mpr ⟨lw_r4, lw_r5⟩⟩⟩⟩
def RX0 : String := "FieldPumps$Events"
def TX0 : u_T := fun k => match k with
  | 0 => ("FieldPumps$Events", "kinds", "[I", true)
  | 1 => ("FieldPumps$Events", "times", "[I", true)
  | 2 => ("FieldPumps$Events", "pumps", "[I", true)
  | 3 => ("FieldPumps$Events", "latestTimes", "[I", true)
  | _ => ("FieldPumps$Events", "all", "I", false)
def tyX0 : Nat → FieldType := fun k => match k with
  | 0 => .array .int
  | 1 => .array .int
  | 2 => .array .int
  | 3 => .array .int
  | _ => .int
abbrev wsX00 : List Cond := u_ws RX0 TX0 5
theorem nmX0 : ∀ a, a < 5 → ∀ b, b < 5 → a ≠ b → (TX0 a).2.1 ≠ (TX0 b).2.1 := by decide +kernel
theorem tyX0_ok : ∀ k, k < 5 → parseFieldDescriptor (TX0 k).2.2.1 = some (tyX0 k) := by decide +kernel
abbrev cX0_init : ByteArray := prog_2_method_1_code
def yX0_init : MethodName := ⟨RX0, "<init>", "()V"⟩
abbrev cX0_copyFrom : ByteArray := prog_2_method_2_code
def yX0_copyFrom : MethodName := ⟨RX0, "copyFrom", "(LFieldPumps$Events;)V"⟩
abbrev cX0_add : ByteArray := prog_2_method_3_code
def yX0_add : MethodName := ⟨RX0, "add", "(III)V"⟩
abbrev cX0_kept : ByteArray := prog_2_method_4_code
def yX0_kept : MethodName := ⟨RX0, "kept", "()I"⟩
abbrev cX0_rowOf : ByteArray := prog_2_method_5_code
def yX0_rowOf : MethodName := ⟨RX0, "rowOf", "(I)I"⟩
def RX1 : String := "FieldPumps$Nights"
def TX1 : u_T := fun k => match k with
  | 0 => ("FieldPumps$Nights", "noted", "[I", true)
  | 1 => ("FieldPumps$Nights", "size", "I", false)
  | 2 => ("FieldPumps$Nights", "flow", "I", false)
  | _ => ("FieldPumps$Nights", "alarms", "I", false)
def tyX1 : Nat → FieldType := fun k => match k with
  | 0 => .array .int
  | 1 => .int
  | 2 => .int
  | _ => .int
abbrev wsX10 : List Cond := u_ws RX1 TX1 4
theorem nmX1 : ∀ a, a < 4 → ∀ b, b < 4 → a ≠ b → (TX1 a).2.1 ≠ (TX1 b).2.1 := by decide +kernel
theorem tyX1_ok : ∀ k, k < 4 → parseFieldDescriptor (TX1 k).2.2.1 = some (tyX1 k) := by decide +kernel
abbrev cX1_init : ByteArray := prog_3_method_1_code
def yX1_init : MethodName := ⟨RX1, "<init>", "()V"⟩
abbrev cX1_copyFrom : ByteArray := prog_3_method_2_code
def yX1_copyFrom : MethodName := ⟨RX1, "copyFrom", "(LFieldPumps$Nights;)V"⟩
abbrev cX1_has : ByteArray := prog_3_method_3_code
def yX1_has : MethodName := ⟨RX1, "has", "(I)Z"⟩
abbrev cX1_tellLeak : ByteArray := prog_3_method_4_code
def yX1_tellLeak : MethodName := ⟨RX1, "tellLeak", "(I)Z"⟩
abbrev cX1_middle : ByteArray := prog_3_method_5_code
def yX1_middle : MethodName := ⟨RX1, "middle", "()I"⟩
abbrev cX1_note : ByteArray := prog_3_method_6_code
def yX1_note : MethodName := ⟨RX1, "note", "()V"⟩
def RX2 : String := "FieldPumps$Orders"
def TX2 : u_T := fun k => match k with
  | 0 => ("FieldPumps$Orders", "text", "[C", true)
  | 1 => ("FieldPumps$Orders", "length", "I", false)
  | 2 => ("FieldPumps$Orders", "place", "I", false)
  | 3 => ("FieldPumps$Orders", "behind", "I", false)
  | 4 => ("FieldPumps$Orders", "done", "I", false)
  | 5 => ("FieldPumps$Orders", "letter", "C", false)
  | _ => ("FieldPumps$Orders", "number", "I", false)
def tyX2 : Nat → FieldType := fun k => match k with
  | 0 => .array .char
  | 1 => .int
  | 2 => .int
  | 3 => .int
  | 4 => .int
  | 5 => .char
  | _ => .int
abbrev wsX20 : List Cond := u_ws RX2 TX2 7
theorem nmX2 : ∀ a, a < 7 → ∀ b, b < 7 → a ≠ b → (TX2 a).2.1 ≠ (TX2 b).2.1 := by decide +kernel
theorem tyX2_ok : ∀ k, k < 7 → parseFieldDescriptor (TX2 k).2.2.1 = some (tyX2 k) := by decide +kernel
abbrev cX2_init : ByteArray := prog_4_method_1_code
def yX2_init : MethodName := ⟨RX2, "<init>", "()V"⟩
abbrev cX2_append : ByteArray := prog_4_method_2_code
def yX2_append : MethodName := ⟨RX2, "append", "(C)V"⟩
abbrev cX2_begin : ByteArray := prog_4_method_3_code
def yX2_begin : MethodName := ⟨RX2, "begin", "()V"⟩
abbrev cX2_atEnd : ByteArray := prog_4_method_4_code
def yX2_atEnd : MethodName := ⟨RX2, "atEnd", "()Z"⟩
abbrev cX2_read : ByteArray := prog_4_method_5_code
def yX2_read : MethodName := ⟨RX2, "read", "()Z"⟩
abbrev cX2_next : ByteArray := prog_4_method_6_code
def yX2_next : MethodName := ⟨RX2, "next", "()V"⟩
abbrev cX2_has : ByteArray := prog_4_method_7_code
def yX2_has : MethodName := ⟨RX2, "has", "(I)Z"⟩
abbrev cX2_isLetterOfNumber : ByteArray := prog_4_method_8_code
def yX2_isLetterOfNumber : MethodName := ⟨RX2, "isLetterOfNumber", "()Z"⟩
abbrev cX2_isDigit : ByteArray := prog_4_method_9_code
def yX2_isDigit : MethodName := ⟨RX2, "isDigit", "(C)Z"⟩
def RX3 : String := "FieldPumps$Pumps"
def TX3 : u_T := fun k => match k with
  | 0 => ("FieldPumps$Pumps", "kinds", "[I", true)
  | 1 => ("FieldPumps$Pumps", "shutoffs", "[I", true)
  | 2 => ("FieldPumps$Pumps", "steeps", "[I", true)
  | 3 => ("FieldPumps$Pumps", "inService", "[Z", true)
  | 4 => ("FieldPumps$Pumps", "speeds", "[I", true)
  | 5 => ("FieldPumps$Pumps", "minutes", "[I", true)
  | 6 => ("FieldPumps$Pumps", "minutesSinceStart", "[I", true)
  | 7 => ("FieldPumps$Pumps", "starts", "[I", true)
  | 8 => ("FieldPumps$Pumps", "size", "I", false)
  | _ => ("FieldPumps$Pumps", "variable", "I", false)
def tyX3 : Nat → FieldType := fun k => match k with
  | 0 => .array .int
  | 1 => .array .int
  | 2 => .array .int
  | 3 => .array .boolean
  | 4 => .array .int
  | 5 => .array .int
  | 6 => .array .int
  | 7 => .array .int
  | 8 => .int
  | _ => .int
abbrev wsX30 : List Cond := u_ws RX3 TX3 10
theorem nmX3 : ∀ a, a < 10 → ∀ b, b < 10 → a ≠ b → (TX3 a).2.1 ≠ (TX3 b).2.1 := by decide +kernel
theorem tyX3_ok : ∀ k, k < 10 → parseFieldDescriptor (TX3 k).2.2.1 = some (tyX3 k) := by decide +kernel
abbrev cX3_init : ByteArray := prog_5_method_1_code
def yX3_init : MethodName := ⟨RX3, "<init>", "()V"⟩
abbrev cX3_copyFrom : ByteArray := prog_5_method_2_code
def yX3_copyFrom : MethodName := ⟨RX3, "copyFrom", "(LFieldPumps$Pumps;)V"⟩
abbrev cX3_add : ByteArray := prog_5_method_3_code
def yX3_add : MethodName := ⟨RX3, "add", "(III)I"⟩
abbrev cX3_has : ByteArray := prog_5_method_4_code
def yX3_has : MethodName := ⟨RX3, "has", "(I)Z"⟩
abbrev cX3_runs : ByteArray := prog_5_method_5_code
def yX3_runs : MethodName := ⟨RX3, "runs", "(I)Z"⟩
abbrev cX3_isReady : ByteArray := prog_5_method_6_code
def yX3_isReady : MethodName := ⟨RX3, "isReady", "(I)Z"⟩
abbrev cX3_hasVariable : ByteArray := prog_5_method_7_code
def yX3_hasVariable : MethodName := ⟨RX3, "hasVariable", "()Z"⟩
abbrev cX3_variableAt : ByteArray := prog_5_method_8_code
def yX3_variableAt : MethodName := ⟨RX3, "variableAt", "(I)Z"⟩
abbrev cX3_running : ByteArray := prog_5_method_9_code
def yX3_running : MethodName := ⟨RX3, "running", "()I"⟩
abbrev cX3_readyOnes : ByteArray := prog_5_method_10_code
def yX3_readyOnes : MethodName := ⟨RX3, "readyOnes", "()I"⟩
abbrev cX3_differenceOfMinutes : ByteArray := prog_5_method_11_code
def yX3_differenceOfMinutes : MethodName := ⟨RX3, "differenceOfMinutes", "()I"⟩
abbrev cX3_flowOf : ByteArray := prog_5_method_12_code
def yX3_flowOf : MethodName := ⟨RX3, "flowOf", "(III)I"⟩
abbrev cX3_flow : ByteArray := prog_5_method_13_code
def yX3_flow : MethodName := ⟨RX3, "flow", "(I)I"⟩
abbrev cX3_root : ByteArray := prog_5_method_14_code
def yX3_root : MethodName := ⟨RX3, "root", "(I)I"⟩
abbrev cX3_countMinute : ByteArray := prog_5_method_15_code
def yX3_countMinute : MethodName := ⟨RX3, "countMinute", "()V"⟩
abbrev cX3_readyInOrder : ByteArray := prog_5_method_16_code
def yX3_readyInOrder : MethodName := ⟨RX3, "readyInOrder", "(I)I"⟩
abbrev cX3_readyAhead : ByteArray := prog_5_method_17_code
def yX3_readyAhead : MethodName := ⟨RX3, "readyAhead", "(IZ)I"⟩
abbrev cX3_isAhead : ByteArray := prog_5_method_18_code
def yX3_isAhead : MethodName := ⟨RX3, "isAhead", "(IIZ)Z"⟩
abbrev cX3_start : ByteArray := prog_5_method_19_code
def yX3_start : MethodName := ⟨RX3, "start", "(II)V"⟩
abbrev cX3_stop : ByteArray := prog_5_method_20_code
def yX3_stop : MethodName := ⟨RX3, "stop", "(I)V"⟩
abbrev cX3_nextVariable : ByteArray := prog_5_method_21_code
def yX3_nextVariable : MethodName := ⟨RX3, "nextVariable", "()I"⟩
abbrev cX3_nextToStop : ByteArray := prog_5_method_22_code
def yX3_nextToStop : MethodName := ⟨RX3, "nextToStop", "()I"⟩
abbrev cX3_nextInRotation : ByteArray := prog_5_method_23_code
def yX3_nextInRotation : MethodName := ⟨RX3, "nextInRotation", "()I"⟩
def RX4 : String := "FieldPumps$Station"
def TX4 : u_T := fun k => match k with
  | 0 => ("FieldPumps$Station", "settings", "[I", true)
  | 1 => ("FieldPumps$Station", "pumps", "LFieldPumps$Pumps;", true)
  | 2 => ("FieldPumps$Station", "zones", "LFieldPumps$Zones;", true)
  | 3 => ("FieldPumps$Station", "nights", "LFieldPumps$Nights;", true)
  | 4 => ("FieldPumps$Station", "events", "LFieldPumps$Events;", true)
  | 5 => ("FieldPumps$Station", "time", "I", false)
  | 6 => ("FieldPumps$Station", "pressure", "I", false)
  | 7 => ("FieldPumps$Station", "level", "I", false)
  | 8 => ("FieldPumps$Station", "leak", "I", false)
  | 9 => ("FieldPumps$Station", "supply", "I", false)
  | 10 => ("FieldPumps$Station", "allSupplied", "I", false)
  | 11 => ("FieldPumps$Station", "dry", "Z", false)
  | 12 => ("FieldPumps$Station", "dryMinutes", "I", false)
  | 13 => ("FieldPumps$Station", "trips", "I", false)
  | 14 => ("FieldPumps$Station", "minutesToStart", "I", false)
  | 15 => ("FieldPumps$Station", "minutesToStop", "I", false)
  | _ => ("FieldPumps$Station", "minutesToSleep", "I", false)
def tyX4 : Nat → FieldType := fun k => match k with
  | 0 => .array .int
  | 1 => .object "FieldPumps$Pumps"
  | 2 => .object "FieldPumps$Zones"
  | 3 => .object "FieldPumps$Nights"
  | 4 => .object "FieldPumps$Events"
  | 5 => .int
  | 6 => .int
  | 7 => .int
  | 8 => .int
  | 9 => .int
  | 10 => .int
  | 11 => .boolean
  | 12 => .int
  | 13 => .int
  | 14 => .int
  | 15 => .int
  | _ => .int
abbrev wsX40 : List Cond := u_ws RX4 TX4 17
theorem nmX4 : ∀ a, a < 17 → ∀ b, b < 17 → a ≠ b → (TX4 a).2.1 ≠ (TX4 b).2.1 := by decide +kernel
theorem tyX4_ok : ∀ k, k < 17 → parseFieldDescriptor (TX4 k).2.2.1 = some (tyX4 k) := by decide +kernel
abbrev cX4_init : ByteArray := prog_6_method_1_code
def yX4_init : MethodName := ⟨RX4, "<init>", "()V"⟩
abbrev cX4_copyFrom : ByteArray := prog_6_method_2_code
def yX4_copyFrom : MethodName := ⟨RX4, "copyFrom", "(LFieldPumps$Station;)V"⟩
abbrev cX4_demand : ByteArray := prog_6_method_3_code
def yX4_demand : MethodName := ⟨RX4, "demand", "()I"⟩
abbrev cX4_runMinute : ByteArray := prog_6_method_4_code
def yX4_runMinute : MethodName := ⟨RX4, "runMinute", "()V"⟩
abbrev cX4_moveWater : ByteArray := prog_6_method_5_code
def yX4_moveWater : MethodName := ⟨RX4, "moveWater", "()V"⟩
abbrev cX4_watchNight : ByteArray := prog_6_method_6_code
def yX4_watchNight : MethodName := ⟨RX4, "watchNight", "()V"⟩
abbrev cX4_watchLevel : ByteArray := prog_6_method_7_code
def yX4_watchLevel : MethodName := ⟨RX4, "watchLevel", "()V"⟩
abbrev cX4_goOnIfFilled : ByteArray := prog_6_method_8_code
def yX4_goOnIfFilled : MethodName := ⟨RX4, "goOnIfFilled", "()V"⟩
abbrev cX4_forgetTrips : ByteArray := prog_6_method_9_code
def yX4_forgetTrips : MethodName := ⟨RX4, "forgetTrips", "()V"⟩
abbrev cX4_changeService : ByteArray := prog_6_method_10_code
def yX4_changeService : MethodName := ⟨RX4, "changeService", "(IZ)Z"⟩
abbrev cX4_start : ByteArray := prog_6_method_11_code
def yX4_start : MethodName := ⟨RX4, "start", "(II)V"⟩
abbrev cX4_stop : ByteArray := prog_6_method_12_code
def yX4_stop : MethodName := ⟨RX4, "stop", "(I)Z"⟩
abbrev cX4_adjustSpeed : ByteArray := prog_6_method_13_code
def yX4_adjustSpeed : MethodName := ⟨RX4, "adjustSpeed", "()V"⟩
abbrev cX4_wake : ByteArray := prog_6_method_14_code
def yX4_wake : MethodName := ⟨RX4, "wake", "()V"⟩
abbrev cX4_beginMinutesAnew : ByteArray := prog_6_method_15_code
def yX4_beginMinutesAnew : MethodName := ⟨RX4, "beginMinutesAnew", "()V"⟩
abbrev cX4_countMinutes : ByteArray := prog_6_method_16_code
def yX4_countMinutes : MethodName := ⟨RX4, "countMinutes", "()V"⟩
abbrev cX4_cascade : ByteArray := prog_6_method_17_code
def yX4_cascade : MethodName := ⟨RX4, "cascade", "()V"⟩
abbrev cX4_rotate : ByteArray := prog_6_method_18_code
def yX4_rotate : MethodName := ⟨RX4, "rotate", "()V"⟩
def RX5 : String := "FieldPumps$Zones"
def TX5 : u_T := fun k => match k with
  | 0 => ("FieldPumps$Zones", "demands", "[I", true)
  | 1 => ("FieldPumps$Zones", "isOpen", "[Z", true)
  | 2 => ("FieldPumps$Zones", "size", "I", false)
  | 3 => ("FieldPumps$Zones", "programmeZones", "[I", true)
  | 4 => ("FieldPumps$Zones", "opening", "[I", true)
  | 5 => ("FieldPumps$Zones", "closing", "[I", true)
  | _ => ("FieldPumps$Zones", "programmes", "I", false)
def tyX5 : Nat → FieldType := fun k => match k with
  | 0 => .array .int
  | 1 => .array .boolean
  | 2 => .int
  | 3 => .array .int
  | 4 => .array .int
  | 5 => .array .int
  | _ => .int
abbrev wsX50 : List Cond := u_ws RX5 TX5 7
theorem nmX5 : ∀ a, a < 7 → ∀ b, b < 7 → a ≠ b → (TX5 a).2.1 ≠ (TX5 b).2.1 := by decide +kernel
theorem tyX5_ok : ∀ k, k < 7 → parseFieldDescriptor (TX5 k).2.2.1 = some (tyX5 k) := by decide +kernel
abbrev cX5_init : ByteArray := prog_7_method_1_code
def yX5_init : MethodName := ⟨RX5, "<init>", "()V"⟩
abbrev cX5_copyFrom : ByteArray := prog_7_method_2_code
def yX5_copyFrom : MethodName := ⟨RX5, "copyFrom", "(LFieldPumps$Zones;)V"⟩
abbrev cX5_add : ByteArray := prog_7_method_3_code
def yX5_add : MethodName := ⟨RX5, "add", "(I)I"⟩
abbrev cX5_addProgramme : ByteArray := prog_7_method_4_code
def yX5_addProgramme : MethodName := ⟨RX5, "addProgramme", "(III)I"⟩
abbrev cX5_has : ByteArray := prog_7_method_5_code
def yX5_has : MethodName := ⟨RX5, "has", "(I)Z"⟩
abbrev cX5_openOnes : ByteArray := prog_7_method_6_code
def yX5_openOnes : MethodName := ⟨RX5, "openOnes", "()I"⟩
abbrev cX5_programmesOf : ByteArray := prog_7_method_7_code
def yX5_programmesOf : MethodName := ⟨RX5, "programmesOf", "(I)I"⟩
abbrev cX5_takenBy : ByteArray := prog_7_method_8_code
def yX5_takenBy : MethodName := ⟨RX5, "takenBy", "(II)I"⟩
abbrev cX5_taken : ByteArray := prog_7_method_9_code
def yX5_taken : MethodName := ⟨RX5, "taken", "(I)I"⟩
abbrev cX5_keepProgrammes : ByteArray := prog_7_method_10_code
def yX5_keepProgrammes : MethodName := ⟨RX5, "keepProgrammes", "(I)V"⟩
def RX6 : String := "FieldPumps"
def TX6 : u_T := fun k => match k with
  | 0 => ("FieldPumps", "now", "LFieldPumps$Station;", true)
  | 1 => ("FieldPumps", "trial", "LFieldPumps$Station;", true)
  | 2 => ("FieldPumps", "history", "[LFieldPumps$Station;", true)
  | 3 => ("FieldPumps", "states", "I", false)
  | _ => ("FieldPumps", "orders", "LFieldPumps$Orders;", true)
def tyX6 : Nat → FieldType := fun k => match k with
  | 0 => .object "FieldPumps$Station"
  | 1 => .object "FieldPumps$Station"
  | 2 => .array (.object "FieldPumps$Station")
  | 3 => .int
  | _ => .object "FieldPumps$Orders"
abbrev wsX60 : List Cond := u_ws RX6 TX6 5
theorem nmX6 : ∀ a, a < 5 → ∀ b, b < 5 → a ≠ b → (TX6 a).2.1 ≠ (TX6 b).2.1 := by decide +kernel
theorem tyX6_ok : ∀ k, k < 5 → parseFieldDescriptor (TX6 k).2.2.1 = some (tyX6 k) := by decide +kernel
abbrev cX6_init : ByteArray := prog_1_method_1_code
def yX6_init : MethodName := ⟨RX6, "<init>", "()V"⟩
abbrev cX6_set : ByteArray := prog_1_method_2_code
def yX6_set : MethodName := ⟨RX6, "set", "(II)I"⟩
abbrev cX6_pump : ByteArray := prog_1_method_3_code
def yX6_pump : MethodName := ⟨RX6, "pump", "(III)I"⟩
abbrev cX6_service : ByteArray := prog_1_method_4_code
def yX6_service : MethodName := ⟨RX6, "service", "(II)I"⟩
abbrev cX6_pumpOf : ByteArray := prog_1_method_5_code
def yX6_pumpOf : MethodName := ⟨RX6, "pumpOf", "(II)I"⟩
abbrev cX6_curve : ByteArray := prog_1_method_6_code
def yX6_curve : MethodName := ⟨RX6, "curve", "(III)I"⟩
abbrev cX6_readyAt : ByteArray := prog_1_method_7_code
def yX6_readyAt : MethodName := ⟨RX6, "readyAt", "(I)I"⟩
abbrev cX6_balance : ByteArray := prog_1_method_8_code
def yX6_balance : MethodName := ⟨RX6, "balance", "()I"⟩
abbrev cX6_zone : ByteArray := prog_1_method_9_code
def yX6_zone : MethodName := ⟨RX6, "zone", "(I)I"⟩
abbrev cX6_open : ByteArray := prog_1_method_10_code
def yX6_open : MethodName := ⟨RX6, "open", "(II)I"⟩
abbrev cX6_leak : ByteArray := prog_1_method_11_code
def yX6_leak : MethodName := ⟨RX6, "leak", "(I)I"⟩
abbrev cX6_programme : ByteArray := prog_1_method_12_code
def yX6_programme : MethodName := ⟨RX6, "programme", "(III)I"⟩
abbrev cX6_zoneOf : ByteArray := prog_1_method_13_code
def yX6_zoneOf : MethodName := ⟨RX6, "zoneOf", "(II)I"⟩
abbrev cX6_fill : ByteArray := prog_1_method_14_code
def yX6_fill : MethodName := ⟨RX6, "fill", "(I)I"⟩
abbrev cX6_reset : ByteArray := prog_1_method_15_code
def yX6_reset : MethodName := ⟨RX6, "reset", "()I"⟩
abbrev cX6_pass : ByteArray := prog_1_method_16_code
def yX6_pass : MethodName := ⟨RX6, "pass", "(I)I"⟩
abbrev cX6_foresee : ByteArray := prog_1_method_17_code
def yX6_foresee : MethodName := ⟨RX6, "foresee", "(II)I"⟩
abbrev cX6_foreseeEvent : ByteArray := prog_1_method_18_code
def yX6_foreseeEvent : MethodName := ⟨RX6, "foreseeEvent", "(I)I"⟩
abbrev cX6_station : ByteArray := prog_1_method_19_code
def yX6_station : MethodName := ⟨RX6, "station", "(I)I"⟩
abbrev cX6_nightAt : ByteArray := prog_1_method_20_code
def yX6_nightAt : MethodName := ⟨RX6, "nightAt", "(I)I"⟩
abbrev cX6_eventAt : ByteArray := prog_1_method_21_code
def yX6_eventAt : MethodName := ⟨RX6, "eventAt", "(II)I"⟩
abbrev cX6_count : ByteArray := prog_1_method_22_code
def yX6_count : MethodName := ⟨RX6, "count", "(I)I"⟩
abbrev cX6_undo : ByteArray := prog_1_method_23_code
def yX6_undo : MethodName := ⟨RX6, "undo", "()I"⟩
abbrev cX6_type : ByteArray := prog_1_method_24_code
def yX6_type : MethodName := ⟨RX6, "type", "(I)I"⟩
abbrev cX6_clearText : ByteArray := prog_1_method_25_code
def yX6_clearText : MethodName := ⟨RX6, "clearText", "()I"⟩
abbrev cX6_fault : ByteArray := prog_1_method_26_code
def yX6_fault : MethodName := ⟨RX6, "fault", "(I)I"⟩
abbrev cX6_play : ByteArray := prog_1_method_27_code
def yX6_play : MethodName := ⟨RX6, "play", "()I"⟩
abbrev cX6_tryOrders : ByteArray := prog_1_method_28_code
def yX6_tryOrders : MethodName := ⟨RX6, "tryOrders", "()I"⟩
abbrev cX6_tryOrder : ByteArray := prog_1_method_29_code
def yX6_tryOrder : MethodName := ⟨RX6, "tryOrder", "(CI)I"⟩
abbrev cX6_tryStoppingService : ByteArray := prog_1_method_30_code
def yX6_tryStoppingService : MethodName := ⟨RX6, "tryStoppingService", "(I)I"⟩
abbrev cX6_tryReset : ByteArray := prog_1_method_31_code
def yX6_tryReset : MethodName := ⟨RX6, "tryReset", "()I"⟩
abbrev cX6_tryZone : ByteArray := prog_1_method_32_code
def yX6_tryZone : MethodName := ⟨RX6, "tryZone", "(IZ)I"⟩
abbrev cX6_remember : ByteArray := prog_1_method_33_code
def yX6_remember : MethodName := ⟨RX6, "remember", "()V"⟩
abbrev cX6_within : ByteArray := prog_1_method_34_code
def yX6_within : MethodName := ⟨RX6, "within", "(III)Z"⟩
abbrev cX6_hold : ByteArray := prog_1_method_35_code
def yX6_hold : MethodName := ⟨RX6, "hold", "(III)I"⟩
def RX7 : String := "FieldPumpsModel"
def TX7 : u_T := fun k => match k with
  | 0 => ("FieldPumpsModel", "all", "[I", true)
  | 1 => ("FieldPumpsModel", "saved", "[I", true)
  | 2 => ("FieldPumpsModel", "savedMany", "I", false)
  | 3 => ("FieldPumpsModel", "aside", "[I", true)
  | 4 => ("FieldPumpsModel", "seen", "I", false)
  | 5 => ("FieldPumpsModel", "text", "[I", true)
  | 6 => ("FieldPumpsModel", "textLong", "I", false)
  | 7 => ("FieldPumpsModel", "place", "I", false)
  | 8 => ("FieldPumpsModel", "order", "I", false)
  | 9 => ("FieldPumpsModel", "number", "I", false)
  | 10 => ("FieldPumpsModel", "faultAt", "I", false)
  | 11 => ("FieldPumpsModel", "faultReason", "I", false)
  | _ => ("FieldPumpsModel", "done", "I", false)
def tyX7 : Nat → FieldType := fun k => match k with
  | 0 => .array .int
  | 1 => .array .int
  | 2 => .int
  | 3 => .array .int
  | 4 => .int
  | 5 => .array .int
  | 6 => .int
  | 7 => .int
  | 8 => .int
  | 9 => .int
  | 10 => .int
  | 11 => .int
  | _ => .int
abbrev wsX70 : List Cond := u_ws RX7 TX7 13
theorem nmX7 : ∀ a, a < 13 → ∀ b, b < 13 → a ≠ b → (TX7 a).2.1 ≠ (TX7 b).2.1 := by decide +kernel
theorem tyX7_ok : ∀ k, k < 13 → parseFieldDescriptor (TX7 k).2.2.1 = some (tyX7 k) := by decide +kernel
abbrev cX7_init : ByteArray := prog_9_method_1_code
def yX7_init : MethodName := ⟨RX7, "<init>", "()V"⟩
abbrev cX7_in : ByteArray := prog_9_method_3_code
def yX7_in : MethodName := ⟨RX7, "in", "(JJJ)Z"⟩
abbrev cX7_firstOf : ByteArray := prog_9_method_4_code
def yX7_firstOf : MethodName := ⟨RX7, "firstOf", "(I)I"⟩
abbrev cX7_isSetting : ByteArray := prog_9_method_5_code
def yX7_isSetting : MethodName := ⟨RX7, "isSetting", "(II)Z"⟩
abbrev cX7_setting : ByteArray := prog_9_method_6_code
def yX7_setting : MethodName := ⟨RX7, "setting", "(I)I"⟩
abbrev cX7_save : ByteArray := prog_9_method_7_code
def yX7_save : MethodName := ⟨RX7, "save", "()V"⟩
abbrev cX7_set : ByteArray := prog_9_method_8_code
def yX7_set : MethodName := ⟨RX7, "set", "(II)I"⟩
abbrev cX7_of : ByteArray := prog_9_method_9_code
def yX7_of : MethodName := ⟨RX7, "of", "(II)I"⟩
abbrev cX7_put : ByteArray := prog_9_method_10_code
def yX7_put : MethodName := ⟨RX7, "put", "(III)V"⟩
abbrev cX7_isPump : ByteArray := prog_9_method_11_code
def yX7_isPump : MethodName := ⟨RX7, "isPump", "(I)Z"⟩
abbrev cX7_pump : ByteArray := prog_9_method_12_code
def yX7_pump : MethodName := ⟨RX7, "pump", "(III)I"⟩
abbrev cX7_runs : ByteArray := prog_9_method_13_code
def yX7_runs : MethodName := ⟨RX7, "runs", "(I)Z"⟩
abbrev cX7_running : ByteArray := prog_9_method_14_code
def yX7_running : MethodName := ⟨RX7, "running", "()I"⟩
abbrev cX7_isReady : ByteArray := prog_9_method_15_code
def yX7_isReady : MethodName := ⟨RX7, "isReady", "(I)Z"⟩
abbrev cX7_root : ByteArray := prog_9_method_16_code
def yX7_root : MethodName := ⟨RX7, "root", "(J)I"⟩
abbrev cX7_flow : ByteArray := prog_9_method_17_code
def yX7_flow : MethodName := ⟨RX7, "flow", "(III)I"⟩
abbrev cX7_isAhead : ByteArray := prog_9_method_18_code
def yX7_isAhead : MethodName := ⟨RX7, "isAhead", "(II)Z"⟩
abbrev cX7_ready : ByteArray := prog_9_method_19_code
def yX7_ready : MethodName := ⟨RX7, "ready", "(I)I"⟩
abbrev cX7_event : ByteArray := prog_9_method_20_code
def yX7_event : MethodName := ⟨RX7, "event", "(II)V"⟩
abbrev cX7_begins : ByteArray := prog_9_method_21_code
def yX7_begins : MethodName := ⟨RX7, "begins", "(IIZ)V"⟩
abbrev cX7_start : ByteArray := prog_9_method_22_code
def yX7_start : MethodName := ⟨RX7, "start", "(I)V"⟩
abbrev cX7_nextVariable : ByteArray := prog_9_method_23_code
def yX7_nextVariable : MethodName := ⟨RX7, "nextVariable", "()I"⟩
abbrev cX7_stop : ByteArray := prog_9_method_24_code
def yX7_stop : MethodName := ⟨RX7, "stop", "(I)V"⟩
abbrev cX7_serves : ByteArray := prog_9_method_25_code
def yX7_serves : MethodName := ⟨RX7, "serves", "(II)I"⟩
abbrev cX7_service : ByteArray := prog_9_method_26_code
def yX7_service : MethodName := ⟨RX7, "service", "(II)I"⟩
abbrev cX7_pumpOf : ByteArray := prog_9_method_27_code
def yX7_pumpOf : MethodName := ⟨RX7, "pumpOf", "(II)I"⟩
abbrev cX7_curve : ByteArray := prog_9_method_28_code
def yX7_curve : MethodName := ⟨RX7, "curve", "(III)I"⟩
abbrev cX7_readyAt : ByteArray := prog_9_method_29_code
def yX7_readyAt : MethodName := ⟨RX7, "readyAt", "(I)I"⟩
abbrev cX7_balance : ByteArray := prog_9_method_30_code
def yX7_balance : MethodName := ⟨RX7, "balance", "()I"⟩
abbrev cX7_isZone : ByteArray := prog_9_method_31_code
def yX7_isZone : MethodName := ⟨RX7, "isZone", "(I)Z"⟩
abbrev cX7_isOpen : ByteArray := prog_9_method_32_code
def yX7_isOpen : MethodName := ⟨RX7, "isOpen", "(I)Z"⟩
abbrev cX7_zone : ByteArray := prog_9_method_33_code
def yX7_zone : MethodName := ⟨RX7, "zone", "(I)I"⟩
abbrev cX7_openZones : ByteArray := prog_9_method_34_code
def yX7_openZones : MethodName := ⟨RX7, "openZones", "()I"⟩
abbrev cX7_open : ByteArray := prog_9_method_35_code
def yX7_open : MethodName := ⟨RX7, "open", "(II)I"⟩
abbrev cX7_leak : ByteArray := prog_9_method_36_code
def yX7_leak : MethodName := ⟨RX7, "leak", "(I)I"⟩
abbrev cX7_programme : ByteArray := prog_9_method_37_code
def yX7_programme : MethodName := ⟨RX7, "programme", "(III)I"⟩
abbrev cX7_takes : ByteArray := prog_9_method_38_code
def yX7_takes : MethodName := ⟨RX7, "takes", "(I)I"⟩
abbrev cX7_zoneOf : ByteArray := prog_9_method_39_code
def yX7_zoneOf : MethodName := ⟨RX7, "zoneOf", "(II)I"⟩
abbrev cX7_fill : ByteArray := prog_9_method_40_code
def yX7_fill : MethodName := ⟨RX7, "fill", "(I)I"⟩
abbrev cX7_resets : ByteArray := prog_9_method_41_code
def yX7_resets : MethodName := ⟨RX7, "resets", "()I"⟩
abbrev cX7_reset : ByteArray := prog_9_method_42_code
def yX7_reset : MethodName := ⟨RX7, "reset", "()I"⟩
abbrev cX7_minuteOfDay : ByteArray := prog_9_method_43_code
def yX7_minuteOfDay : MethodName := ⟨RX7, "minuteOfDay", "()I"⟩
abbrev cX7_programmes : ByteArray := prog_9_method_44_code
def yX7_programmes : MethodName := ⟨RX7, "programmes", "()V"⟩
abbrev cX7_demand : ByteArray := prog_9_method_45_code
def yX7_demand : MethodName := ⟨RX7, "demand", "()I"⟩
abbrev cX7_within : ByteArray := prog_9_method_46_code
def yX7_within : MethodName := ⟨RX7, "within", "(III)I"⟩
abbrev cX7_water : ByteArray := prog_9_method_47_code
def yX7_water : MethodName := ⟨RX7, "water", "()V"⟩
abbrev cX7_middleNight : ByteArray := prog_9_method_48_code
def yX7_middleNight : MethodName := ⟨RX7, "middleNight", "()I"⟩
abbrev cX7_night : ByteArray := prog_9_method_49_code
def yX7_night : MethodName := ⟨RX7, "night", "()V"⟩
abbrev cX7_dryness : ByteArray := prog_9_method_50_code
def yX7_dryness : MethodName := ⟨RX7, "dryness", "()V"⟩
abbrev cX7_speedOfVariable : ByteArray := prog_9_method_51_code
def yX7_speedOfVariable : MethodName := ⟨RX7, "speedOfVariable", "()I"⟩
abbrev cX7_regulate : ByteArray := prog_9_method_52_code
def yX7_regulate : MethodName := ⟨RX7, "regulate", "()V"⟩
abbrev cX7_counts : ByteArray := prog_9_method_53_code
def yX7_counts : MethodName := ⟨RX7, "counts", "(IZ)V"⟩
abbrev cX7_countAll : ByteArray := prog_9_method_54_code
def yX7_countAll : MethodName := ⟨RX7, "countAll", "()V"⟩
abbrev cX7_beginAnew : ByteArray := prog_9_method_55_code
def yX7_beginAnew : MethodName := ⟨RX7, "beginAnew", "()V"⟩
abbrev cX7_longest : ByteArray := prog_9_method_56_code
def yX7_longest : MethodName := ⟨RX7, "longest", "()I"⟩
abbrev cX7_cascade : ByteArray := prog_9_method_57_code
def yX7_cascade : MethodName := ⟨RX7, "cascade", "()V"⟩
abbrev cX7_rotate : ByteArray := prog_9_method_58_code
def yX7_rotate : MethodName := ⟨RX7, "rotate", "()V"⟩
abbrev cX7_minute : ByteArray := prog_9_method_59_code
def yX7_minute : MethodName := ⟨RX7, "minute", "()V"⟩
abbrev cX7_minutes : ByteArray := prog_9_method_60_code
def yX7_minutes : MethodName := ⟨RX7, "minutes", "(I)V"⟩
abbrev cX7_passFault : ByteArray := prog_9_method_61_code
def yX7_passFault : MethodName := ⟨RX7, "passFault", "(I)I"⟩
abbrev cX7_pass : ByteArray := prog_9_method_62_code
def yX7_pass : MethodName := ⟨RX7, "pass", "(I)I"⟩
abbrev cX7_layAside : ByteArray := prog_9_method_63_code
def yX7_layAside : MethodName := ⟨RX7, "layAside", "()V"⟩
abbrev cX7_takeBack : ByteArray := prog_9_method_64_code
def yX7_takeBack : MethodName := ⟨RX7, "takeBack", "()V"⟩
abbrev cX7_foresee : ByteArray := prog_9_method_65_code
def yX7_foresee : MethodName := ⟨RX7, "foresee", "(II)I"⟩
abbrev cX7_foreseeEvent : ByteArray := prog_9_method_66_code
def yX7_foreseeEvent : MethodName := ⟨RX7, "foreseeEvent", "(I)I"⟩
abbrev cX7_station : ByteArray := prog_9_method_67_code
def yX7_station : MethodName := ⟨RX7, "station", "(I)I"⟩
abbrev cX7_nightAt : ByteArray := prog_9_method_68_code
def yX7_nightAt : MethodName := ⟨RX7, "nightAt", "(I)I"⟩
abbrev cX7_eventAt : ByteArray := prog_9_method_69_code
def yX7_eventAt : MethodName := ⟨RX7, "eventAt", "(II)I"⟩
abbrev cX7_readyPumps : ByteArray := prog_9_method_70_code
def yX7_readyPumps : MethodName := ⟨RX7, "readyPumps", "()I"⟩
abbrev cX7_count : ByteArray := prog_9_method_71_code
def yX7_count : MethodName := ⟨RX7, "count", "(I)I"⟩
abbrev cX7_undo : ByteArray := prog_9_method_72_code
def yX7_undo : MethodName := ⟨RX7, "undo", "()I"⟩
abbrev cX7_type : ByteArray := prog_9_method_73_code
def yX7_type : MethodName := ⟨RX7, "type", "(I)I"⟩
abbrev cX7_clearText : ByteArray := prog_9_method_74_code
def yX7_clearText : MethodName := ⟨RX7, "clearText", "()I"⟩
abbrev cX7_here : ByteArray := prog_9_method_75_code
def yX7_here : MethodName := ⟨RX7, "here", "()I"⟩
abbrev cX7_readsOrder : ByteArray := prog_9_method_76_code
def yX7_readsOrder : MethodName := ⟨RX7, "readsOrder", "()Z"⟩
abbrev cX7_reasonOfOrder : ByteArray := prog_9_method_77_code
def yX7_reasonOfOrder : MethodName := ⟨RX7, "reasonOfOrder", "()I"⟩
abbrev cX7_does : ByteArray := prog_9_method_78_code
def yX7_does : MethodName := ⟨RX7, "does", "()V"⟩
abbrev cX7_doOrders : ByteArray := prog_9_method_79_code
def yX7_doOrders : MethodName := ⟨RX7, "doOrders", "()V"⟩
abbrev cX7_tryOrders : ByteArray := prog_9_method_80_code
def yX7_tryOrders : MethodName := ⟨RX7, "tryOrders", "()V"⟩
abbrev cX7_fault : ByteArray := prog_9_method_81_code
def yX7_fault : MethodName := ⟨RX7, "fault", "(I)I"⟩
abbrev cX7_play : ByteArray := prog_9_method_82_code
def yX7_play : MethodName := ⟨RX7, "play", "()I"⟩
def RJx8e188 : String := "java/lang/Cloneable"
def TJx8e188 : u_T := fun k => match k with
  | _ => ("", "", "", false)
def tyJx8e188 : Nat → FieldType := fun k => match k with
  | _ => .int
abbrev wsJx8e1880 : List Cond := u_ws RJx8e188 TJx8e188 0
theorem nmJx8e188 : ∀ a, a < 0 → ∀ b, b < 0 → a ≠ b → (TJx8e188 a).2.1 ≠ (TJx8e188 b).2.1 := by decide +kernel
theorem tyJx8e188_ok : ∀ k, k < 0 → parseFieldDescriptor (TJx8e188 k).2.2.1 = some (tyJx8e188 k) := by decide +kernel
def RJ9 : String := "java/lang/Math"
def TJ9 : u_T := fun k => match k with
  | _ => ("", "", "", false)
def tyJ9 : Nat → FieldType := fun k => match k with
  | _ => .int
abbrev wsJ90 : List Cond := u_ws RJ9 TJ9 0
theorem nmJ9 : ∀ a, a < 0 → ∀ b, b < 0 → a ≠ b → (TJ9 a).2.1 ≠ (TJ9 b).2.1 := by decide +kernel
theorem tyJ9_ok : ∀ k, k < 0 → parseFieldDescriptor (TJ9 k).2.2.1 = some (tyJ9 k) := by decide +kernel
abbrev cJ9_max_7cf53 : ByteArray := prog_11_method_65_code
def yJ9_max_7cf53 : MethodName := ⟨RJ9, "max", "(II)I"⟩
abbrev cJ9_min_7cf53 : ByteArray := prog_11_method_69_code
def yJ9_min_7cf53 : MethodName := ⟨RJ9, "min", "(II)I"⟩
def RJ10 : String := "java/lang/System"
def TJ10 : u_T := fun k => match k with
  | _ => ("", "", "", false)
def tyJ10 : Nat → FieldType := fun k => match k with
  | _ => .int
abbrev wsJ100 : List Cond := u_ws RJ10 TJ10 0
theorem nmJ10 : ∀ a, a < 0 → ∀ b, b < 0 → a ≠ b → (TJ10 a).2.1 ≠ (TJ10 b).2.1 := by decide +kernel
theorem tyJ10_ok : ∀ k, k < 0 → parseFieldDescriptor (TJ10 k).2.2.1 = some (tyJ10 k) := by decide +kernel
def RL : String := "FieldPumpsLaw"
abbrev cL_law : ByteArray := code
def yL_law : MethodName := ⟨RL, "law", "([I)Z"⟩
