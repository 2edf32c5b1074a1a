/-! ===== Station ===== -/
theorem ST_id : (∀ S : ST, S.sP S.P = S) ∧ (∀ S : ST, S.sZ S.Z = S) ∧ (∀ S : ST, S.sN S.N = S) ∧ (∀ S : ST, S.sE S.E = S) := ⟨fun _ => rfl, fun _ => rfl, fun _ => rfl, fun _ => rfl⟩
theorem FT_id : (∀ S : FT, S.sNow S.now = S) ∧ (∀ S : FT, S.sTrial S.trial = S) ∧ (∀ S : FT, S.sO S.O = S) := ⟨fun _ => rfl, fun _ => rfl, fun _ => rfl⟩
def ST.ok (S : ST) : Prop := S.P.ok ∧ S.Z.ok ∧ S.N.ok
def ST.demand (S : ST) : Int32 := S.Z.taken S.pressure + S.leak * S.pressure / 1000
theorem dv_eq : (¬ (1000 : Int32) = 0) ∧ (¬ (1440 : Int32) = 0) ∧ (¬ (100 : Int32) = 0) := by decide
theorem v19_eq : vp_in 0 19 ∧ vp_in 1 19 ∧ vp_in 2 19 ∧ vp_in 3 19 ∧ vp_in 4 19 ∧ vp_in 5 19 ∧ vp_in 6 19 ∧ vp_in 7 19 ∧ vp_in 8 19 ∧ vp_in 9 19 ∧ vp_in 10 19 ∧ vp_in 11 19 ∧ vp_in 12 19 ∧ vp_in 13 19 ∧ vp_in 14 19 ∧ vp_in 15 19 ∧ vp_in 16 19 ∧ vp_in 17 19 ∧ vp_in 18 19 := by unfold vp_in; decide +kernel
theorem v8_eq : vp_in 0 8 ∧ vp_in 1 8 ∧ vp_in 2 8 ∧ vp_in 3 8 ∧ vp_in 4 8 ∧ vp_in 5 8 ∧ vp_in 6 8 ∧ vp_in 7 8 := by unfold vp_in; decide +kernel
theorem flX4_33 : fldOk RX4 33 4 2 = true := by decide +kernel
theorem flX4_77 : fldOk RX4 77 4 6 = true := by decide +kernel
theorem flX4_80 : fldOk RX4 80 4 8 = true := by decide +kernel
def cod_X4_demand : List (Nat × Op ST) := [(0, O_aload 0 1), (1, O_getf stW 4 2), (4, O_aload 0 1), (5, O_getf stW 4 6), (8, O_callV 1 11 (fun S : ST => S.Z) (fun S u => S.sZ u) sp_X5_taken), (11, O_aload 0 1), (12, O_getf stW 4 8), (15, O_aload 0 1), (16, O_getf stW 4 6), (19, O_imul), (20, O_int 1000 3), (23, O_idiv), (24, O_iadd), (25, O_iret)]
abbrev cut_X4_demand : List Nat := []
set_option maxRecDepth 100000 in
theorem okc_X4_demand {E : En} (F : Fx E RX4 cX4_demand 1 2) (G : Fr E (some .int)) : CodOk E stW cod_X4_demand := by
  unfold CodOk cod_X4_demand
  refine List.forall_mem_cons.mpr ⟨ok_aload_n F dX4_demand_0 rfl (by decide), ?_⟩
  refine List.forall_mem_cons.mpr ⟨ok_getf F flX4_33 dX4_demand_1 (by decide), ?_⟩
  refine List.forall_mem_cons.mpr ⟨ok_aload_n F dX4_demand_4 rfl (by decide), ?_⟩
  refine List.forall_mem_cons.mpr ⟨ok_getf F flX4_77 dX4_demand_5 (by decide), ?_⟩
  refine List.forall_mem_cons.mpr ⟨ok_callV F spok_X5_taken ln_st_Z rcv_zW (by decide +kernel) (by decide) dX4_demand_8 (by decide), ?_⟩
  refine List.forall_mem_cons.mpr ⟨ok_aload_n F dX4_demand_11 rfl (by decide), ?_⟩
  refine List.forall_mem_cons.mpr ⟨ok_getf F flX4_80 dX4_demand_12 (by decide), ?_⟩
  refine List.forall_mem_cons.mpr ⟨ok_aload_n F dX4_demand_15 rfl (by decide), ?_⟩
  refine List.forall_mem_cons.mpr ⟨ok_getf F flX4_77 dX4_demand_16 (by decide), ?_⟩
  refine List.forall_mem_cons.mpr ⟨ok_imul F dX4_demand_19 (by decide), ?_⟩
  refine List.forall_mem_cons.mpr ⟨ok_sipush F dX4_demand_20 (by decide) (by decide), ?_⟩
  refine List.forall_mem_cons.mpr ⟨ok_idiv F dX4_demand_23 (by decide), ?_⟩
  refine List.forall_mem_cons.mpr ⟨ok_iadd F dX4_demand_24 (by decide), ?_⟩
  refine List.forall_mem_cons.mpr ⟨ok_iret F G dX4_demand_25 (by decide), ?_⟩
  exact fun _ h => absurd h List.not_mem_nil
set_option maxRecDepth 100000 in
theorem w_X4_demand : (∀ (K : Kt ST) (n : Nat) (L : xL) (st : List Value) (S : ST), nx cod_X4_demand cut_X4_demand K (n + 1) 0 L st S = (O_aload 0 1) (nx cod_X4_demand cut_X4_demand K n) 0 L st S) ∧
  (∀ (K : Kt ST) (n : Nat) (L : xL) (st : List Value) (S : ST), nx cod_X4_demand cut_X4_demand K (n + 1) 1 L st S = (O_getf stW 4 2) (nx cod_X4_demand cut_X4_demand K n) 1 L st S) ∧
  (∀ (K : Kt ST) (n : Nat) (L : xL) (st : List Value) (S : ST), nx cod_X4_demand cut_X4_demand K (n + 1) 4 L st S = (O_aload 0 1) (nx cod_X4_demand cut_X4_demand K n) 4 L st S) ∧
  (∀ (K : Kt ST) (n : Nat) (L : xL) (st : List Value) (S : ST), nx cod_X4_demand cut_X4_demand K (n + 1) 5 L st S = (O_getf stW 4 6) (nx cod_X4_demand cut_X4_demand K n) 5 L st S) ∧
  (∀ (K : Kt ST) (n : Nat) (L : xL) (st : List Value) (S : ST), nx cod_X4_demand cut_X4_demand K (n + 1) 8 L st S = (O_callV 1 11 (fun S : ST => S.Z) (fun S u => S.sZ u) sp_X5_taken) (nx cod_X4_demand cut_X4_demand K n) 8 L st S) ∧
  (∀ (K : Kt ST) (n : Nat) (L : xL) (st : List Value) (S : ST), nx cod_X4_demand cut_X4_demand K (n + 1) 11 L st S = (O_aload 0 1) (nx cod_X4_demand cut_X4_demand K n) 11 L st S) ∧
  (∀ (K : Kt ST) (n : Nat) (L : xL) (st : List Value) (S : ST), nx cod_X4_demand cut_X4_demand K (n + 1) 12 L st S = (O_getf stW 4 8) (nx cod_X4_demand cut_X4_demand K n) 12 L st S) ∧
  (∀ (K : Kt ST) (n : Nat) (L : xL) (st : List Value) (S : ST), nx cod_X4_demand cut_X4_demand K (n + 1) 15 L st S = (O_aload 0 1) (nx cod_X4_demand cut_X4_demand K n) 15 L st S) ∧
  (∀ (K : Kt ST) (n : Nat) (L : xL) (st : List Value) (S : ST), nx cod_X4_demand cut_X4_demand K (n + 1) 16 L st S = (O_getf stW 4 6) (nx cod_X4_demand cut_X4_demand K n) 16 L st S) ∧
  (∀ (K : Kt ST) (n : Nat) (L : xL) (st : List Value) (S : ST), nx cod_X4_demand cut_X4_demand K (n + 1) 19 L st S = (O_imul) (nx cod_X4_demand cut_X4_demand K n) 19 L st S) ∧
  (∀ (K : Kt ST) (n : Nat) (L : xL) (st : List Value) (S : ST), nx cod_X4_demand cut_X4_demand K (n + 1) 20 L st S = (O_int 1000 3) (nx cod_X4_demand cut_X4_demand K n) 20 L st S) ∧
  (∀ (K : Kt ST) (n : Nat) (L : xL) (st : List Value) (S : ST), nx cod_X4_demand cut_X4_demand K (n + 1) 23 L st S = (O_idiv) (nx cod_X4_demand cut_X4_demand K n) 23 L st S) ∧
  (∀ (K : Kt ST) (n : Nat) (L : xL) (st : List Value) (S : ST), nx cod_X4_demand cut_X4_demand K (n + 1) 24 L st S = (O_iadd) (nx cod_X4_demand cut_X4_demand K n) 24 L st S) ∧
  (∀ (K : Kt ST) (n : Nat) (L : xL) (st : List Value) (S : ST), nx cod_X4_demand cut_X4_demand K (n + 1) 25 L st S = (O_iret) (nx cod_X4_demand cut_X4_demand K n) 25 L st S) ∧
  (∀ (K : Kt ST) (n : Nat) (L : xL) (st : List Value) (S : ST), nx cod_X4_demand cut_X4_demand K (n + 1) 100000 L st S = K 100000 L st S) := by
  repeat' apply And.intro
  all_goals (intros; rfl)
set_option maxRecDepth 100000 in
theorem mk_X4_demand {P P' : ST} {r : Option Value}  (body : ∀ E : En, CodOk E stW cod_X4_demand → Gd E stW 100000 [] r.toList P' → Gd E stW 0 [some (.ref 0)] [] P) : Con yX4_demand cX4_demand 1 (some .int) 2 stW [.ref 0] P r P' :=
  Con.of (by decide) rfl rfl (Nat.le_of_ble_eq_true rfl) (fun E F G hr => body E (okc_X4_demand F G) hr)
theorem con_X4_demand (S : ST)  (hp : S.Z.ok) : Con yX4_demand cX4_demand 1 (some .int) 2 stW [.ref 0] S (some (.int (S.demand))) (S) := by
  refine mk_X4_demand (fun E C hr => ?_)
  (refine nx_ok C (cuts := cut_X4_demand) 1000 _ _ _ _ ?_; simp only [w_X4_demand, ops_eq, xst_eq, call_eq, oK_eq, Option.toList_some, Option.toList_none, List.cons_append, List.nil_append, List.length_cons, List.length_nil, true_and, and_true, Nat.reduceAdd, stW_F, stW_A, stW_S, stW_P, ST_id, ST_gs, PT_gs, ZT_gs, NT_gs, ET_gs, se_X5_taken, dv_eq])
  ((repeat' (with_reducible first | apply And.intro | intro _)) <;> simp_all [ST.demand, ST_id, ST_gs, PT_gs, ZT_gs, NT_gs, ET_gs])
def sp_X4_demand : Sp ST := fun av S K => match av with
  | [.ref 0] => (S.Z.ok) ∧ K (some (.int (S.demand))) (S)
  | _ => False
theorem se_X4_demand  (S : ST) (K : Option Value → ST → Prop) : sp_X4_demand [.ref 0] S K = ((S.Z.ok) ∧ K (some (.int (S.demand))) (S)) := rfl
theorem spok_X4_demand : SpOk yX4_demand cX4_demand 1 (some .int) 2 stW sp_X4_demand := by
  intro av S K h
  unfold sp_X4_demand at h
  split at h
  · exact ⟨some (.int (S.demand)), S, trivial, con_X4_demand S  h.1, h.2⟩
  · exact h.elim
def ST.newLevel (S : ST) (sup : Int32) : Int32 := if S.level - sup + S.settings 14 < 20000 then S.level - sup + S.settings 14 else 20000
def ST.sup (S : ST) : Int32 := if S.P.flow S.pressure < S.level then S.P.flow S.pressure else S.level
def ST.water1 (S : ST) : ST := (((S.sSupply S.sup).sAllSupplied (S.allSupplied + S.sup)).sLevel (S.newLevel S.sup)).sP S.P.countM
def ST.water (S : ST) : ST := if 0 < S.settings 10 then S.water1.sPressure (hold (S.pressure + (S.sup - S.demand) / S.settings 10) 0 2000) else S.water1
theorem flX4_18 : fldOk RX4 18 4 0 = true := by decide +kernel
theorem flX4_26 : fldOk RX4 26 4 1 = true := by decide +kernel
theorem flX4_51 : fldOk RX4 51 4 7 = true := by decide +kernel
theorem flX4_83 : fldOk RX4 83 4 9 = true := by decide +kernel
theorem flX4_86 : fldOk RX4 86 4 10 = true := by decide +kernel
def cod_X4_moveWater : List (Nat × Op ST) := [(0, O_aload 0 1), (1, O_callV 0 0 (fun S => S) (fun _ S' => S') sp_X4_demand), (4, O_istore 1 1), (5, O_aload 0 1), (6, O_aload 0 1), (7, O_getf stW 4 7), (10, O_aload 0 1), (11, O_getf stW 4 1), (14, O_aload 0 1), (15, O_getf stW 4 6), (18, O_callV 1 2 (fun S : ST => S.P) (fun S u => S.sP u) sp_X3_flow), (21, O_min), (24, O_puti stW_p4_9), (27, O_aload 0 1), (28, O_dup), (29, O_getf stW 4 10), (32, O_aload 0 1), (33, O_getf stW 4 9), (36, O_iadd), (37, O_puti stW_p4_10), (40, O_aload 0 1), (41, O_int 20000 3), (44, O_aload 0 1), (45, O_getf stW 4 7), (48, O_aload 0 1), (49, O_getf stW 4 9), (52, O_isub), (53, O_aload 0 1), (54, O_getf stW 4 0), (57, O_int 14 2), (59, O_ald stW 0), (60, O_iadd), (61, O_min), (64, O_puti stW_p4_7), (67, O_aload 0 1), (68, O_getf stW 4 1), (71, O_callV 0 2 (fun S : ST => S.P) (fun S u => S.sP u) sp_X3_countMinute), (74, O_aload 0 1), (75, O_getf stW 4 0), (78, O_int 10 2), (80, O_ald stW 0), (81, O_istore 2 1), (82, O_iload 2 1), (83, O_if_le 110), (86, O_aload 0 1), (87, O_aload 0 1), (88, O_getf stW 4 6), (91, O_aload 0 1), (92, O_getf stW 4 9), (95, O_iload 1 1), (96, O_isub), (97, O_iload 2 1), (98, O_idiv), (99, O_iadd), (100, O_int 0 1), (101, O_int 2000 3), (104, O_callS 3 sp_X6_hold), (107, O_puti stW_p4_6), (110, O_vret)]
abbrev cut_X4_moveWater : List Nat := []
set_option maxRecDepth 100000 in
theorem okc_X4_moveWater {E : En} (F : Fx E RX4 cX4_moveWater 3 3) (G : Fr E none) : CodOk E stW cod_X4_moveWater := by
  unfold CodOk cod_X4_moveWater
  refine List.forall_mem_cons.mpr ⟨ok_aload_n F dX4_moveWater_0 rfl (by decide), ?_⟩
  refine List.forall_mem_cons.mpr ⟨ok_callV F spok_X4_demand (ln_id stW) rcv_stW (by decide +kernel) (by decide) dX4_moveWater_1 (by decide), ?_⟩
  refine List.forall_mem_cons.mpr ⟨ok_istore_n F dX4_moveWater_4 rfl (by decide) (by decide), ?_⟩
  refine List.forall_mem_cons.mpr ⟨ok_aload_n F dX4_moveWater_5 rfl (by decide), ?_⟩
  refine List.forall_mem_cons.mpr ⟨ok_aload_n F dX4_moveWater_6 rfl (by decide), ?_⟩
  refine List.forall_mem_cons.mpr ⟨ok_getf F flX4_51 dX4_moveWater_7 (by decide), ?_⟩
  refine List.forall_mem_cons.mpr ⟨ok_aload_n F dX4_moveWater_10 rfl (by decide), ?_⟩
  refine List.forall_mem_cons.mpr ⟨ok_getf F flX4_26 dX4_moveWater_11 (by decide), ?_⟩
  refine List.forall_mem_cons.mpr ⟨ok_aload_n F dX4_moveWater_14 rfl (by decide), ?_⟩
  refine List.forall_mem_cons.mpr ⟨ok_getf F flX4_77 dX4_moveWater_15 (by decide), ?_⟩
  refine List.forall_mem_cons.mpr ⟨ok_callV F spok_X3_flow ln_st_P rcv_pW (by decide +kernel) (by decide) dX4_moveWater_18 (by decide), ?_⟩
  refine List.forall_mem_cons.mpr ⟨ok_min F (by decide +kernel) (by decide) dX4_moveWater_21 (by decide), ?_⟩
  refine List.forall_mem_cons.mpr ⟨ok_puti F stW_p4_9_ok (fun _ _ _ h => by cases h; rfl) rfl flX4_83 dX4_moveWater_24 (by decide), ?_⟩
  refine List.forall_mem_cons.mpr ⟨ok_aload_n F dX4_moveWater_27 rfl (by decide), ?_⟩
  refine List.forall_mem_cons.mpr ⟨ok_dup F dX4_moveWater_28 (by decide), ?_⟩
  refine List.forall_mem_cons.mpr ⟨ok_getf F flX4_86 dX4_moveWater_29 (by decide), ?_⟩
  refine List.forall_mem_cons.mpr ⟨ok_aload_n F dX4_moveWater_32 rfl (by decide), ?_⟩
  refine List.forall_mem_cons.mpr ⟨ok_getf F flX4_83 dX4_moveWater_33 (by decide), ?_⟩
  refine List.forall_mem_cons.mpr ⟨ok_iadd F dX4_moveWater_36 (by decide), ?_⟩
  refine List.forall_mem_cons.mpr ⟨ok_puti F stW_p4_10_ok (fun _ _ _ h => by cases h; rfl) rfl flX4_86 dX4_moveWater_37 (by decide), ?_⟩
  refine List.forall_mem_cons.mpr ⟨ok_aload_n F dX4_moveWater_40 rfl (by decide), ?_⟩
  refine List.forall_mem_cons.mpr ⟨ok_sipush F dX4_moveWater_41 (by decide) (by decide), ?_⟩
  refine List.forall_mem_cons.mpr ⟨ok_aload_n F dX4_moveWater_44 rfl (by decide), ?_⟩
  refine List.forall_mem_cons.mpr ⟨ok_getf F flX4_51 dX4_moveWater_45 (by decide), ?_⟩
  refine List.forall_mem_cons.mpr ⟨ok_aload_n F dX4_moveWater_48 rfl (by decide), ?_⟩
  refine List.forall_mem_cons.mpr ⟨ok_getf F flX4_83 dX4_moveWater_49 (by decide), ?_⟩
  refine List.forall_mem_cons.mpr ⟨ok_isub F dX4_moveWater_52 (by decide), ?_⟩
  refine List.forall_mem_cons.mpr ⟨ok_aload_n F dX4_moveWater_53 rfl (by decide), ?_⟩
  refine List.forall_mem_cons.mpr ⟨ok_getf F flX4_18 dX4_moveWater_54 (by decide), ?_⟩
  refine List.forall_mem_cons.mpr ⟨ok_bipush F dX4_moveWater_57 (by decide) (by decide), ?_⟩
  refine List.forall_mem_cons.mpr ⟨ok_iald F dX4_moveWater_59 (by decide), ?_⟩
  refine List.forall_mem_cons.mpr ⟨ok_iadd F dX4_moveWater_60 (by decide), ?_⟩
  refine List.forall_mem_cons.mpr ⟨ok_min F (by decide +kernel) (by decide) dX4_moveWater_61 (by decide), ?_⟩
  refine List.forall_mem_cons.mpr ⟨ok_puti F stW_p4_7_ok (fun _ _ _ h => by cases h; rfl) rfl flX4_51 dX4_moveWater_64 (by decide), ?_⟩
  refine List.forall_mem_cons.mpr ⟨ok_aload_n F dX4_moveWater_67 rfl (by decide), ?_⟩
  refine List.forall_mem_cons.mpr ⟨ok_getf F flX4_26 dX4_moveWater_68 (by decide), ?_⟩
  refine List.forall_mem_cons.mpr ⟨ok_callV F spok_X3_countMinute ln_st_P rcv_pW (by decide +kernel) (by decide) dX4_moveWater_71 (by decide), ?_⟩
  refine List.forall_mem_cons.mpr ⟨ok_aload_n F dX4_moveWater_74 rfl (by decide), ?_⟩
  refine List.forall_mem_cons.mpr ⟨ok_getf F flX4_18 dX4_moveWater_75 (by decide), ?_⟩
  refine List.forall_mem_cons.mpr ⟨ok_bipush F dX4_moveWater_78 (by decide) (by decide), ?_⟩
  refine List.forall_mem_cons.mpr ⟨ok_iald F dX4_moveWater_80 (by decide), ?_⟩
  refine List.forall_mem_cons.mpr ⟨ok_istore_n F dX4_moveWater_81 rfl (by decide) (by decide), ?_⟩
  refine List.forall_mem_cons.mpr ⟨ok_iload_n F dX4_moveWater_82 rfl (by decide), ?_⟩
  refine List.forall_mem_cons.mpr ⟨ok_if_le F dX4_moveWater_83 (by decide) (by decide) (by decide), ?_⟩
  refine List.forall_mem_cons.mpr ⟨ok_aload_n F dX4_moveWater_86 rfl (by decide), ?_⟩
  refine List.forall_mem_cons.mpr ⟨ok_aload_n F dX4_moveWater_87 rfl (by decide), ?_⟩
  refine List.forall_mem_cons.mpr ⟨ok_getf F flX4_77 dX4_moveWater_88 (by decide), ?_⟩
  refine List.forall_mem_cons.mpr ⟨ok_aload_n F dX4_moveWater_91 rfl (by decide), ?_⟩
  refine List.forall_mem_cons.mpr ⟨ok_getf F flX4_83 dX4_moveWater_92 (by decide), ?_⟩
  refine List.forall_mem_cons.mpr ⟨ok_iload_n F dX4_moveWater_95 rfl (by decide), ?_⟩
  refine List.forall_mem_cons.mpr ⟨ok_isub F dX4_moveWater_96 (by decide), ?_⟩
  refine List.forall_mem_cons.mpr ⟨ok_iload_n F dX4_moveWater_97 rfl (by decide), ?_⟩
  refine List.forall_mem_cons.mpr ⟨ok_idiv F dX4_moveWater_98 (by decide), ?_⟩
  refine List.forall_mem_cons.mpr ⟨ok_iadd F dX4_moveWater_99 (by decide), ?_⟩
  refine List.forall_mem_cons.mpr ⟨ok_iconst F dX4_moveWater_100 (by decide) (by decide), ?_⟩
  refine List.forall_mem_cons.mpr ⟨ok_sipush F dX4_moveWater_101 (by decide) (by decide), ?_⟩
  refine List.forall_mem_cons.mpr ⟨ok_callSN F spok_X6_hold (host := RX6) (by decide +kernel) (by decide) dX4_moveWater_104 (by decide), ?_⟩
  refine List.forall_mem_cons.mpr ⟨ok_puti F stW_p4_6_ok (fun _ _ _ h => by cases h; rfl) rfl flX4_77 dX4_moveWater_107 (by decide), ?_⟩
  refine List.forall_mem_cons.mpr ⟨ok_vret F G dX4_moveWater_110 (by decide), ?_⟩
  exact fun _ h => absurd h List.not_mem_nil
set_option maxRecDepth 100000 in
theorem w_X4_moveWater : (∀ (K : Kt ST) (n : Nat) (L : xL) (st : List Value) (S : ST), nx cod_X4_moveWater cut_X4_moveWater K (n + 1) 0 L st S = (O_aload 0 1) (nx cod_X4_moveWater cut_X4_moveWater K n) 0 L st S) ∧
  (∀ (K : Kt ST) (n : Nat) (L : xL) (st : List Value) (S : ST), nx cod_X4_moveWater cut_X4_moveWater K (n + 1) 1 L st S = (O_callV 0 0 (fun S => S) (fun _ S' => S') sp_X4_demand) (nx cod_X4_moveWater cut_X4_moveWater K n) 1 L st S) ∧
  (∀ (K : Kt ST) (n : Nat) (L : xL) (st : List Value) (S : ST), nx cod_X4_moveWater cut_X4_moveWater K (n + 1) 4 L st S = (O_istore 1 1) (nx cod_X4_moveWater cut_X4_moveWater K n) 4 L st S) ∧
  (∀ (K : Kt ST) (n : Nat) (L : xL) (st : List Value) (S : ST), nx cod_X4_moveWater cut_X4_moveWater K (n + 1) 5 L st S = (O_aload 0 1) (nx cod_X4_moveWater cut_X4_moveWater K n) 5 L st S) ∧
  (∀ (K : Kt ST) (n : Nat) (L : xL) (st : List Value) (S : ST), nx cod_X4_moveWater cut_X4_moveWater K (n + 1) 6 L st S = (O_aload 0 1) (nx cod_X4_moveWater cut_X4_moveWater K n) 6 L st S) ∧
  (∀ (K : Kt ST) (n : Nat) (L : xL) (st : List Value) (S : ST), nx cod_X4_moveWater cut_X4_moveWater K (n + 1) 7 L st S = (O_getf stW 4 7) (nx cod_X4_moveWater cut_X4_moveWater K n) 7 L st S) ∧
  (∀ (K : Kt ST) (n : Nat) (L : xL) (st : List Value) (S : ST), nx cod_X4_moveWater cut_X4_moveWater K (n + 1) 10 L st S = (O_aload 0 1) (nx cod_X4_moveWater cut_X4_moveWater K n) 10 L st S) ∧
  (∀ (K : Kt ST) (n : Nat) (L : xL) (st : List Value) (S : ST), nx cod_X4_moveWater cut_X4_moveWater K (n + 1) 11 L st S = (O_getf stW 4 1) (nx cod_X4_moveWater cut_X4_moveWater K n) 11 L st S) ∧
  (∀ (K : Kt ST) (n : Nat) (L : xL) (st : List Value) (S : ST), nx cod_X4_moveWater cut_X4_moveWater K (n + 1) 14 L st S = (O_aload 0 1) (nx cod_X4_moveWater cut_X4_moveWater K n) 14 L st S) ∧
  (∀ (K : Kt ST) (n : Nat) (L : xL) (st : List Value) (S : ST), nx cod_X4_moveWater cut_X4_moveWater K (n + 1) 15 L st S = (O_getf stW 4 6) (nx cod_X4_moveWater cut_X4_moveWater K n) 15 L st S) ∧
  (∀ (K : Kt ST) (n : Nat) (L : xL) (st : List Value) (S : ST), nx cod_X4_moveWater cut_X4_moveWater K (n + 1) 18 L st S = (O_callV 1 2 (fun S : ST => S.P) (fun S u => S.sP u) sp_X3_flow) (nx cod_X4_moveWater cut_X4_moveWater K n) 18 L st S) ∧
  (∀ (K : Kt ST) (n : Nat) (L : xL) (st : List Value) (S : ST), nx cod_X4_moveWater cut_X4_moveWater K (n + 1) 21 L st S = (O_min) (nx cod_X4_moveWater cut_X4_moveWater K n) 21 L st S) ∧
  (∀ (K : Kt ST) (n : Nat) (L : xL) (st : List Value) (S : ST), nx cod_X4_moveWater cut_X4_moveWater K (n + 1) 24 L st S = (O_puti stW_p4_9) (nx cod_X4_moveWater cut_X4_moveWater K n) 24 L st S) ∧
  (∀ (K : Kt ST) (n : Nat) (L : xL) (st : List Value) (S : ST), nx cod_X4_moveWater cut_X4_moveWater K (n + 1) 27 L st S = (O_aload 0 1) (nx cod_X4_moveWater cut_X4_moveWater K n) 27 L st S) ∧
  (∀ (K : Kt ST) (n : Nat) (L : xL) (st : List Value) (S : ST), nx cod_X4_moveWater cut_X4_moveWater K (n + 1) 28 L st S = (O_dup) (nx cod_X4_moveWater cut_X4_moveWater K n) 28 L st S) ∧
  (∀ (K : Kt ST) (n : Nat) (L : xL) (st : List Value) (S : ST), nx cod_X4_moveWater cut_X4_moveWater K (n + 1) 29 L st S = (O_getf stW 4 10) (nx cod_X4_moveWater cut_X4_moveWater K n) 29 L st S) ∧
  (∀ (K : Kt ST) (n : Nat) (L : xL) (st : List Value) (S : ST), nx cod_X4_moveWater cut_X4_moveWater K (n + 1) 32 L st S = (O_aload 0 1) (nx cod_X4_moveWater cut_X4_moveWater K n) 32 L st S) ∧
  (∀ (K : Kt ST) (n : Nat) (L : xL) (st : List Value) (S : ST), nx cod_X4_moveWater cut_X4_moveWater K (n + 1) 33 L st S = (O_getf stW 4 9) (nx cod_X4_moveWater cut_X4_moveWater K n) 33 L st S) ∧
  (∀ (K : Kt ST) (n : Nat) (L : xL) (st : List Value) (S : ST), nx cod_X4_moveWater cut_X4_moveWater K (n + 1) 36 L st S = (O_iadd) (nx cod_X4_moveWater cut_X4_moveWater K n) 36 L st S) ∧
  (∀ (K : Kt ST) (n : Nat) (L : xL) (st : List Value) (S : ST), nx cod_X4_moveWater cut_X4_moveWater K (n + 1) 37 L st S = (O_puti stW_p4_10) (nx cod_X4_moveWater cut_X4_moveWater K n) 37 L st S) ∧
  (∀ (K : Kt ST) (n : Nat) (L : xL) (st : List Value) (S : ST), nx cod_X4_moveWater cut_X4_moveWater K (n + 1) 40 L st S = (O_aload 0 1) (nx cod_X4_moveWater cut_X4_moveWater K n) 40 L st S) ∧
  (∀ (K : Kt ST) (n : Nat) (L : xL) (st : List Value) (S : ST), nx cod_X4_moveWater cut_X4_moveWater K (n + 1) 41 L st S = (O_int 20000 3) (nx cod_X4_moveWater cut_X4_moveWater K n) 41 L st S) ∧
  (∀ (K : Kt ST) (n : Nat) (L : xL) (st : List Value) (S : ST), nx cod_X4_moveWater cut_X4_moveWater K (n + 1) 44 L st S = (O_aload 0 1) (nx cod_X4_moveWater cut_X4_moveWater K n) 44 L st S) ∧
  (∀ (K : Kt ST) (n : Nat) (L : xL) (st : List Value) (S : ST), nx cod_X4_moveWater cut_X4_moveWater K (n + 1) 45 L st S = (O_getf stW 4 7) (nx cod_X4_moveWater cut_X4_moveWater K n) 45 L st S) ∧
  (∀ (K : Kt ST) (n : Nat) (L : xL) (st : List Value) (S : ST), nx cod_X4_moveWater cut_X4_moveWater K (n + 1) 48 L st S = (O_aload 0 1) (nx cod_X4_moveWater cut_X4_moveWater K n) 48 L st S) ∧
  (∀ (K : Kt ST) (n : Nat) (L : xL) (st : List Value) (S : ST), nx cod_X4_moveWater cut_X4_moveWater K (n + 1) 49 L st S = (O_getf stW 4 9) (nx cod_X4_moveWater cut_X4_moveWater K n) 49 L st S) ∧
  (∀ (K : Kt ST) (n : Nat) (L : xL) (st : List Value) (S : ST), nx cod_X4_moveWater cut_X4_moveWater K (n + 1) 52 L st S = (O_isub) (nx cod_X4_moveWater cut_X4_moveWater K n) 52 L st S) ∧
  (∀ (K : Kt ST) (n : Nat) (L : xL) (st : List Value) (S : ST), nx cod_X4_moveWater cut_X4_moveWater K (n + 1) 53 L st S = (O_aload 0 1) (nx cod_X4_moveWater cut_X4_moveWater K n) 53 L st S) ∧
  (∀ (K : Kt ST) (n : Nat) (L : xL) (st : List Value) (S : ST), nx cod_X4_moveWater cut_X4_moveWater K (n + 1) 54 L st S = (O_getf stW 4 0) (nx cod_X4_moveWater cut_X4_moveWater K n) 54 L st S) ∧
  (∀ (K : Kt ST) (n : Nat) (L : xL) (st : List Value) (S : ST), nx cod_X4_moveWater cut_X4_moveWater K (n + 1) 57 L st S = (O_int 14 2) (nx cod_X4_moveWater cut_X4_moveWater K n) 57 L st S) ∧
  (∀ (K : Kt ST) (n : Nat) (L : xL) (st : List Value) (S : ST), nx cod_X4_moveWater cut_X4_moveWater K (n + 1) 59 L st S = (O_ald stW 0) (nx cod_X4_moveWater cut_X4_moveWater K n) 59 L st S) ∧
  (∀ (K : Kt ST) (n : Nat) (L : xL) (st : List Value) (S : ST), nx cod_X4_moveWater cut_X4_moveWater K (n + 1) 60 L st S = (O_iadd) (nx cod_X4_moveWater cut_X4_moveWater K n) 60 L st S) ∧
  (∀ (K : Kt ST) (n : Nat) (L : xL) (st : List Value) (S : ST), nx cod_X4_moveWater cut_X4_moveWater K (n + 1) 61 L st S = (O_min) (nx cod_X4_moveWater cut_X4_moveWater K n) 61 L st S) ∧
  (∀ (K : Kt ST) (n : Nat) (L : xL) (st : List Value) (S : ST), nx cod_X4_moveWater cut_X4_moveWater K (n + 1) 64 L st S = (O_puti stW_p4_7) (nx cod_X4_moveWater cut_X4_moveWater K n) 64 L st S) ∧
  (∀ (K : Kt ST) (n : Nat) (L : xL) (st : List Value) (S : ST), nx cod_X4_moveWater cut_X4_moveWater K (n + 1) 67 L st S = (O_aload 0 1) (nx cod_X4_moveWater cut_X4_moveWater K n) 67 L st S) ∧
  (∀ (K : Kt ST) (n : Nat) (L : xL) (st : List Value) (S : ST), nx cod_X4_moveWater cut_X4_moveWater K (n + 1) 68 L st S = (O_getf stW 4 1) (nx cod_X4_moveWater cut_X4_moveWater K n) 68 L st S) ∧
  (∀ (K : Kt ST) (n : Nat) (L : xL) (st : List Value) (S : ST), nx cod_X4_moveWater cut_X4_moveWater K (n + 1) 71 L st S = (O_callV 0 2 (fun S : ST => S.P) (fun S u => S.sP u) sp_X3_countMinute) (nx cod_X4_moveWater cut_X4_moveWater K n) 71 L st S) ∧
  (∀ (K : Kt ST) (n : Nat) (L : xL) (st : List Value) (S : ST), nx cod_X4_moveWater cut_X4_moveWater K (n + 1) 74 L st S = (O_aload 0 1) (nx cod_X4_moveWater cut_X4_moveWater K n) 74 L st S) ∧
  (∀ (K : Kt ST) (n : Nat) (L : xL) (st : List Value) (S : ST), nx cod_X4_moveWater cut_X4_moveWater K (n + 1) 75 L st S = (O_getf stW 4 0) (nx cod_X4_moveWater cut_X4_moveWater K n) 75 L st S) ∧
  (∀ (K : Kt ST) (n : Nat) (L : xL) (st : List Value) (S : ST), nx cod_X4_moveWater cut_X4_moveWater K (n + 1) 78 L st S = (O_int 10 2) (nx cod_X4_moveWater cut_X4_moveWater K n) 78 L st S) ∧
  (∀ (K : Kt ST) (n : Nat) (L : xL) (st : List Value) (S : ST), nx cod_X4_moveWater cut_X4_moveWater K (n + 1) 80 L st S = (O_ald stW 0) (nx cod_X4_moveWater cut_X4_moveWater K n) 80 L st S) ∧
  (∀ (K : Kt ST) (n : Nat) (L : xL) (st : List Value) (S : ST), nx cod_X4_moveWater cut_X4_moveWater K (n + 1) 81 L st S = (O_istore 2 1) (nx cod_X4_moveWater cut_X4_moveWater K n) 81 L st S) ∧
  (∀ (K : Kt ST) (n : Nat) (L : xL) (st : List Value) (S : ST), nx cod_X4_moveWater cut_X4_moveWater K (n + 1) 82 L st S = (O_iload 2 1) (nx cod_X4_moveWater cut_X4_moveWater K n) 82 L st S) ∧
  (∀ (K : Kt ST) (n : Nat) (L : xL) (st : List Value) (S : ST), nx cod_X4_moveWater cut_X4_moveWater K (n + 1) 83 L st S = (O_if_le 110) (nx cod_X4_moveWater cut_X4_moveWater K n) 83 L st S) ∧
  (∀ (K : Kt ST) (n : Nat) (L : xL) (st : List Value) (S : ST), nx cod_X4_moveWater cut_X4_moveWater K (n + 1) 86 L st S = (O_aload 0 1) (nx cod_X4_moveWater cut_X4_moveWater K n) 86 L st S) ∧
  (∀ (K : Kt ST) (n : Nat) (L : xL) (st : List Value) (S : ST), nx cod_X4_moveWater cut_X4_moveWater K (n + 1) 87 L st S = (O_aload 0 1) (nx cod_X4_moveWater cut_X4_moveWater K n) 87 L st S) ∧
  (∀ (K : Kt ST) (n : Nat) (L : xL) (st : List Value) (S : ST), nx cod_X4_moveWater cut_X4_moveWater K (n + 1) 88 L st S = (O_getf stW 4 6) (nx cod_X4_moveWater cut_X4_moveWater K n) 88 L st S) ∧
  (∀ (K : Kt ST) (n : Nat) (L : xL) (st : List Value) (S : ST), nx cod_X4_moveWater cut_X4_moveWater K (n + 1) 91 L st S = (O_aload 0 1) (nx cod_X4_moveWater cut_X4_moveWater K n) 91 L st S) ∧
  (∀ (K : Kt ST) (n : Nat) (L : xL) (st : List Value) (S : ST), nx cod_X4_moveWater cut_X4_moveWater K (n + 1) 92 L st S = (O_getf stW 4 9) (nx cod_X4_moveWater cut_X4_moveWater K n) 92 L st S) ∧
  (∀ (K : Kt ST) (n : Nat) (L : xL) (st : List Value) (S : ST), nx cod_X4_moveWater cut_X4_moveWater K (n + 1) 95 L st S = (O_iload 1 1) (nx cod_X4_moveWater cut_X4_moveWater K n) 95 L st S) ∧
  (∀ (K : Kt ST) (n : Nat) (L : xL) (st : List Value) (S : ST), nx cod_X4_moveWater cut_X4_moveWater K (n + 1) 96 L st S = (O_isub) (nx cod_X4_moveWater cut_X4_moveWater K n) 96 L st S) ∧
  (∀ (K : Kt ST) (n : Nat) (L : xL) (st : List Value) (S : ST), nx cod_X4_moveWater cut_X4_moveWater K (n + 1) 97 L st S = (O_iload 2 1) (nx cod_X4_moveWater cut_X4_moveWater K n) 97 L st S) ∧
  (∀ (K : Kt ST) (n : Nat) (L : xL) (st : List Value) (S : ST), nx cod_X4_moveWater cut_X4_moveWater K (n + 1) 98 L st S = (O_idiv) (nx cod_X4_moveWater cut_X4_moveWater K n) 98 L st S) ∧
  (∀ (K : Kt ST) (n : Nat) (L : xL) (st : List Value) (S : ST), nx cod_X4_moveWater cut_X4_moveWater K (n + 1) 99 L st S = (O_iadd) (nx cod_X4_moveWater cut_X4_moveWater K n) 99 L st S) ∧
  (∀ (K : Kt ST) (n : Nat) (L : xL) (st : List Value) (S : ST), nx cod_X4_moveWater cut_X4_moveWater K (n + 1) 100 L st S = (O_int 0 1) (nx cod_X4_moveWater cut_X4_moveWater K n) 100 L st S) ∧
  (∀ (K : Kt ST) (n : Nat) (L : xL) (st : List Value) (S : ST), nx cod_X4_moveWater cut_X4_moveWater K (n + 1) 101 L st S = (O_int 2000 3) (nx cod_X4_moveWater cut_X4_moveWater K n) 101 L st S) ∧
  (∀ (K : Kt ST) (n : Nat) (L : xL) (st : List Value) (S : ST), nx cod_X4_moveWater cut_X4_moveWater K (n + 1) 104 L st S = (O_callS 3 sp_X6_hold) (nx cod_X4_moveWater cut_X4_moveWater K n) 104 L st S) ∧
  (∀ (K : Kt ST) (n : Nat) (L : xL) (st : List Value) (S : ST), nx cod_X4_moveWater cut_X4_moveWater K (n + 1) 107 L st S = (O_puti stW_p4_6) (nx cod_X4_moveWater cut_X4_moveWater K n) 107 L st S) ∧
  (∀ (K : Kt ST) (n : Nat) (L : xL) (st : List Value) (S : ST), nx cod_X4_moveWater cut_X4_moveWater K (n + 1) 110 L st S = (O_vret) (nx cod_X4_moveWater cut_X4_moveWater K n) 110 L st S) ∧
  (∀ (K : Kt ST) (n : Nat) (L : xL) (st : List Value) (S : ST), nx cod_X4_moveWater cut_X4_moveWater K (n + 1) 100000 L st S = K 100000 L st S) := by
  repeat' apply And.intro
  all_goals (intros; rfl)
set_option maxRecDepth 100000 in
theorem mk_X4_moveWater {P P' : ST} {r : Option Value}  (body : ∀ E : En, CodOk E stW cod_X4_moveWater → Gd E stW 100000 [] r.toList P' → Gd E stW 0 [some (.ref 0), none, none] [] P) : Con yX4_moveWater cX4_moveWater 3 none 3 stW [.ref 0] P r P' :=
  Con.of (by decide) rfl rfl (Nat.le_of_ble_eq_true rfl) (fun E F G hr => body E (okc_X4_moveWater F G) hr)
theorem con_X4_moveWater (S : ST)  (hp : S.ok) : Con yX4_moveWater cX4_moveWater 3 none 3 stW [.ref 0] S (none) (S.water) := by
  refine mk_X4_moveWater (fun E C hr => ?_)
  obtain ⟨h1, h2, h3⟩ := hp
  (refine nx_ok C (cuts := cut_X4_moveWater) 1000 _ _ _ _ ?_; simp only [w_X4_moveWater, ops_eq, xst_eq, call_eq, oK_eq, Option.toList_some, Option.toList_none, List.cons_append, List.nil_append, List.length_cons, List.length_nil, true_and, and_true, Nat.reduceAdd, stW_F, stW_A, stW_S, stW_P, ST_id, ST_gs, PT_gs, ZT_gs, NT_gs, ET_gs, se_X4_demand, se_X3_flow, se_X3_countMinute, se_X6_hold, v19_eq, cl_eq])
  ((repeat' (with_reducible first | apply And.intro | intro _)) <;> simp_all [ST.water, ST.water1, ST.newLevel, ST.sup, pos_ne, ST_id, ST_gs, PT_gs, ZT_gs, NT_gs, ET_gs])
  all_goals exact hr
def sp_X4_moveWater : Sp ST := fun av S K => match av with
  | [.ref 0] => (S.ok) ∧ K (none) (S.water)
  | _ => False
theorem se_X4_moveWater  (S : ST) (K : Option Value → ST → Prop) : sp_X4_moveWater [.ref 0] S K = ((S.ok) ∧ K (none) (S.water)) := rfl
theorem spok_X4_moveWater : SpOk yX4_moveWater cX4_moveWater 3 none 3 stW sp_X4_moveWater := by
  intro av S K h
  unfold sp_X4_moveWater at h
  split at h
  · exact ⟨none, S.water, trivial, con_X4_moveWater S  h.1, h.2⟩
  · exact h.elim
def ST.event (S : ST) (k p : Int32) : ST := S.sE (S.E.add k S.time p)
def ST.into (S : ST) : Int32 := (S.time % 1440 - S.settings 15 + 1440) % 1440
def ST.night1 (S : ST) : ST := S.sN (S.N.sFlow (S.N.flow + S.supply))
def ST.night2 (S : ST) : ST := if S.night1.N.tells (S.settings 17) = true then (S.night1.sN (S.night1.N.sAlarms (S.N.alarms + 1))).event 6 (-1) else S.night1
def ST.night (S : ST) : ST :=
  if ¬ S.into < S.settings 16 then S else
  if S.into < S.settings 16 - 1 then S.night1 else
  S.night2.sN S.night2.N.note
theorem NT_ok : (∀ (S : NT) (x : Int32), (S.sFlow x).ok = S.ok) ∧ (∀ (S : NT) (x : Int32), (S.sAlarms x).ok = S.ok) := ⟨fun _ _ => rfl, fun _ _ => rfl⟩
theorem flX4_40 : fldOk RX4 40 4 3 = true := by decide +kernel
theorem flX4_47 : fldOk RX4 47 4 4 = true := by decide +kernel
theorem flX4_74 : fldOk RX4 74 4 5 = true := by decide +kernel
theorem flX4_163 : fldOk RX4 163 1 2 = true := by decide +kernel
theorem flX4_169 : fldOk RX4 169 1 3 = true := by decide +kernel
def cod_X4_watchNight : List (Nat × Op ST) := [(0, O_aload 0 1), (1, O_getf stW 4 5), (4, O_int 1440 3), (7, O_irem), (8, O_aload 0 1), (9, O_getf stW 4 0), (12, O_int 15 2), (14, O_ald stW 0), (15, O_isub), (16, O_int 1440 3), (19, O_iadd), (20, O_int 1440 3), (23, O_irem), (24, O_istore 1 1), (25, O_iload 1 1), (26, O_aload 0 1), (27, O_getf stW 4 0), (30, O_int 16 2), (32, O_ald stW 0), (33, O_icmp_lt 37), (36, O_vret), (37, O_aload 0 1), (38, O_getf stW 4 3), (41, O_dup), (42, O_getf stW 1 2), (45, O_aload 0 1), (46, O_getf stW 4 9), (49, O_iadd), (50, O_puti stW_p1_2), (53, O_iload 1 1), (54, O_aload 0 1), (55, O_getf stW 4 0), (58, O_int 16 2), (60, O_ald stW 0), (61, O_int 1 1), (62, O_isub), (63, O_icmp_ge 67), (66, O_vret), (67, O_aload 0 1), (68, O_getf stW 4 3), (71, O_aload 0 1), (72, O_getf stW 4 0), (75, O_int 17 2), (77, O_ald stW 0), (78, O_callV 1 17 (fun S : ST => S.N) (fun S u => S.sN u) sp_X1_tellLeak), (81, O_if_eq 111), (84, O_aload 0 1), (85, O_getf stW 4 3), (88, O_dup), (89, O_getf stW 1 3), (92, O_int 1 1), (93, O_iadd), (94, O_puti stW_p1_3), (97, O_aload 0 1), (98, O_getf stW 4 4), (101, O_int 6 2), (103, O_aload 0 1), (104, O_getf stW 4 5), (107, O_int (-1) 1), (108, O_callV 3 19 (fun S : ST => S.E) (fun S u => S.sE u) sp_X0_add), (111, O_aload 0 1), (112, O_getf stW 4 3), (115, O_callV 0 17 (fun S : ST => S.N) (fun S u => S.sN u) sp_X1_note), (118, O_vret)]
abbrev cut_X4_watchNight : List Nat := []
set_option maxRecDepth 100000 in
theorem okc_X4_watchNight {E : En} (F : Fx E RX4 cX4_watchNight 2 2) (G : Fr E none) : CodOk E stW cod_X4_watchNight := by
  unfold CodOk cod_X4_watchNight
  refine List.forall_mem_cons.mpr ⟨ok_aload_n F dX4_watchNight_0 rfl (by decide), ?_⟩
  refine List.forall_mem_cons.mpr ⟨ok_getf F flX4_74 dX4_watchNight_1 (by decide), ?_⟩
  refine List.forall_mem_cons.mpr ⟨ok_sipush F dX4_watchNight_4 (by decide) (by decide), ?_⟩
  refine List.forall_mem_cons.mpr ⟨ok_irem F dX4_watchNight_7 (by decide), ?_⟩
  refine List.forall_mem_cons.mpr ⟨ok_aload_n F dX4_watchNight_8 rfl (by decide), ?_⟩
  refine List.forall_mem_cons.mpr ⟨ok_getf F flX4_18 dX4_watchNight_9 (by decide), ?_⟩
  refine List.forall_mem_cons.mpr ⟨ok_bipush F dX4_watchNight_12 (by decide) (by decide), ?_⟩
  refine List.forall_mem_cons.mpr ⟨ok_iald F dX4_watchNight_14 (by decide), ?_⟩
  refine List.forall_mem_cons.mpr ⟨ok_isub F dX4_watchNight_15 (by decide), ?_⟩
  refine List.forall_mem_cons.mpr ⟨ok_sipush F dX4_watchNight_16 (by decide) (by decide), ?_⟩
  refine List.forall_mem_cons.mpr ⟨ok_iadd F dX4_watchNight_19 (by decide), ?_⟩
  refine List.forall_mem_cons.mpr ⟨ok_sipush F dX4_watchNight_20 (by decide) (by decide), ?_⟩
  refine List.forall_mem_cons.mpr ⟨ok_irem F dX4_watchNight_23 (by decide), ?_⟩
  refine List.forall_mem_cons.mpr ⟨ok_istore_n F dX4_watchNight_24 rfl (by decide) (by decide), ?_⟩
  refine List.forall_mem_cons.mpr ⟨ok_iload_n F dX4_watchNight_25 rfl (by decide), ?_⟩
  refine List.forall_mem_cons.mpr ⟨ok_aload_n F dX4_watchNight_26 rfl (by decide), ?_⟩
  refine List.forall_mem_cons.mpr ⟨ok_getf F flX4_18 dX4_watchNight_27 (by decide), ?_⟩
  refine List.forall_mem_cons.mpr ⟨ok_bipush F dX4_watchNight_30 (by decide) (by decide), ?_⟩
  refine List.forall_mem_cons.mpr ⟨ok_iald F dX4_watchNight_32 (by decide), ?_⟩
  refine List.forall_mem_cons.mpr ⟨ok_icmp_lt F dX4_watchNight_33 (by decide) (by decide) (by decide), ?_⟩
  refine List.forall_mem_cons.mpr ⟨ok_vret F G dX4_watchNight_36 (by decide), ?_⟩
  refine List.forall_mem_cons.mpr ⟨ok_aload_n F dX4_watchNight_37 rfl (by decide), ?_⟩
  refine List.forall_mem_cons.mpr ⟨ok_getf F flX4_40 dX4_watchNight_38 (by decide), ?_⟩
  refine List.forall_mem_cons.mpr ⟨ok_dup F dX4_watchNight_41 (by decide), ?_⟩
  refine List.forall_mem_cons.mpr ⟨ok_getf F flX4_163 dX4_watchNight_42 (by decide), ?_⟩
  refine List.forall_mem_cons.mpr ⟨ok_aload_n F dX4_watchNight_45 rfl (by decide), ?_⟩
  refine List.forall_mem_cons.mpr ⟨ok_getf F flX4_83 dX4_watchNight_46 (by decide), ?_⟩
  refine List.forall_mem_cons.mpr ⟨ok_iadd F dX4_watchNight_49 (by decide), ?_⟩
  refine List.forall_mem_cons.mpr ⟨ok_puti F stW_p1_2_ok (fun _ _ _ h => by cases h; rfl) rfl flX4_163 dX4_watchNight_50 (by decide), ?_⟩
  refine List.forall_mem_cons.mpr ⟨ok_iload_n F dX4_watchNight_53 rfl (by decide), ?_⟩
  refine List.forall_mem_cons.mpr ⟨ok_aload_n F dX4_watchNight_54 rfl (by decide), ?_⟩
  refine List.forall_mem_cons.mpr ⟨ok_getf F flX4_18 dX4_watchNight_55 (by decide), ?_⟩
  refine List.forall_mem_cons.mpr ⟨ok_bipush F dX4_watchNight_58 (by decide) (by decide), ?_⟩
  refine List.forall_mem_cons.mpr ⟨ok_iald F dX4_watchNight_60 (by decide), ?_⟩
  refine List.forall_mem_cons.mpr ⟨ok_iconst F dX4_watchNight_61 (by decide) (by decide), ?_⟩
  refine List.forall_mem_cons.mpr ⟨ok_isub F dX4_watchNight_62 (by decide), ?_⟩
  refine List.forall_mem_cons.mpr ⟨ok_icmp_ge F dX4_watchNight_63 (by decide) (by decide) (by decide), ?_⟩
  refine List.forall_mem_cons.mpr ⟨ok_vret F G dX4_watchNight_66 (by decide), ?_⟩
  refine List.forall_mem_cons.mpr ⟨ok_aload_n F dX4_watchNight_67 rfl (by decide), ?_⟩
  refine List.forall_mem_cons.mpr ⟨ok_getf F flX4_40 dX4_watchNight_68 (by decide), ?_⟩
  refine List.forall_mem_cons.mpr ⟨ok_aload_n F dX4_watchNight_71 rfl (by decide), ?_⟩
  refine List.forall_mem_cons.mpr ⟨ok_getf F flX4_18 dX4_watchNight_72 (by decide), ?_⟩
  refine List.forall_mem_cons.mpr ⟨ok_bipush F dX4_watchNight_75 (by decide) (by decide), ?_⟩
  refine List.forall_mem_cons.mpr ⟨ok_iald F dX4_watchNight_77 (by decide), ?_⟩
  refine List.forall_mem_cons.mpr ⟨ok_callV F spok_X1_tellLeak ln_st_N rcv_nW (by decide +kernel) (by decide) dX4_watchNight_78 (by decide), ?_⟩
  refine List.forall_mem_cons.mpr ⟨ok_if_eq F dX4_watchNight_81 (by decide) (by decide) (by decide), ?_⟩
  refine List.forall_mem_cons.mpr ⟨ok_aload_n F dX4_watchNight_84 rfl (by decide), ?_⟩
  refine List.forall_mem_cons.mpr ⟨ok_getf F flX4_40 dX4_watchNight_85 (by decide), ?_⟩
  refine List.forall_mem_cons.mpr ⟨ok_dup F dX4_watchNight_88 (by decide), ?_⟩
  refine List.forall_mem_cons.mpr ⟨ok_getf F flX4_169 dX4_watchNight_89 (by decide), ?_⟩
  refine List.forall_mem_cons.mpr ⟨ok_iconst F dX4_watchNight_92 (by decide) (by decide), ?_⟩
  refine List.forall_mem_cons.mpr ⟨ok_iadd F dX4_watchNight_93 (by decide), ?_⟩
  refine List.forall_mem_cons.mpr ⟨ok_puti F stW_p1_3_ok (fun _ _ _ h => by cases h; rfl) rfl flX4_169 dX4_watchNight_94 (by decide), ?_⟩
  refine List.forall_mem_cons.mpr ⟨ok_aload_n F dX4_watchNight_97 rfl (by decide), ?_⟩
  refine List.forall_mem_cons.mpr ⟨ok_getf F flX4_47 dX4_watchNight_98 (by decide), ?_⟩
  refine List.forall_mem_cons.mpr ⟨ok_bipush F dX4_watchNight_101 (by decide) (by decide), ?_⟩
  refine List.forall_mem_cons.mpr ⟨ok_aload_n F dX4_watchNight_103 rfl (by decide), ?_⟩
  refine List.forall_mem_cons.mpr ⟨ok_getf F flX4_74 dX4_watchNight_104 (by decide), ?_⟩
  refine List.forall_mem_cons.mpr ⟨ok_iconst F dX4_watchNight_107 (by decide) (by decide), ?_⟩
  refine List.forall_mem_cons.mpr ⟨ok_callV F spok_X0_add ln_st_E rcv_eW (by decide +kernel) (by decide) dX4_watchNight_108 (by decide), ?_⟩
  refine List.forall_mem_cons.mpr ⟨ok_aload_n F dX4_watchNight_111 rfl (by decide), ?_⟩
  refine List.forall_mem_cons.mpr ⟨ok_getf F flX4_40 dX4_watchNight_112 (by decide), ?_⟩
  refine List.forall_mem_cons.mpr ⟨ok_callV F spok_X1_note ln_st_N rcv_nW (by decide +kernel) (by decide) dX4_watchNight_115 (by decide), ?_⟩
  refine List.forall_mem_cons.mpr ⟨ok_vret F G dX4_watchNight_118 (by decide), ?_⟩
  exact fun _ h => absurd h List.not_mem_nil
set_option maxRecDepth 100000 in
theorem w_X4_watchNight : (∀ (K : Kt ST) (n : Nat) (L : xL) (st : List Value) (S : ST), nx cod_X4_watchNight cut_X4_watchNight K (n + 1) 0 L st S = (O_aload 0 1) (nx cod_X4_watchNight cut_X4_watchNight K n) 0 L st S) ∧
  (∀ (K : Kt ST) (n : Nat) (L : xL) (st : List Value) (S : ST), nx cod_X4_watchNight cut_X4_watchNight K (n + 1) 1 L st S = (O_getf stW 4 5) (nx cod_X4_watchNight cut_X4_watchNight K n) 1 L st S) ∧
  (∀ (K : Kt ST) (n : Nat) (L : xL) (st : List Value) (S : ST), nx cod_X4_watchNight cut_X4_watchNight K (n + 1) 4 L st S = (O_int 1440 3) (nx cod_X4_watchNight cut_X4_watchNight K n) 4 L st S) ∧
  (∀ (K : Kt ST) (n : Nat) (L : xL) (st : List Value) (S : ST), nx cod_X4_watchNight cut_X4_watchNight K (n + 1) 7 L st S = (O_irem) (nx cod_X4_watchNight cut_X4_watchNight K n) 7 L st S) ∧
  (∀ (K : Kt ST) (n : Nat) (L : xL) (st : List Value) (S : ST), nx cod_X4_watchNight cut_X4_watchNight K (n + 1) 8 L st S = (O_aload 0 1) (nx cod_X4_watchNight cut_X4_watchNight K n) 8 L st S) ∧
  (∀ (K : Kt ST) (n : Nat) (L : xL) (st : List Value) (S : ST), nx cod_X4_watchNight cut_X4_watchNight K (n + 1) 9 L st S = (O_getf stW 4 0) (nx cod_X4_watchNight cut_X4_watchNight K n) 9 L st S) ∧
  (∀ (K : Kt ST) (n : Nat) (L : xL) (st : List Value) (S : ST), nx cod_X4_watchNight cut_X4_watchNight K (n + 1) 12 L st S = (O_int 15 2) (nx cod_X4_watchNight cut_X4_watchNight K n) 12 L st S) ∧
  (∀ (K : Kt ST) (n : Nat) (L : xL) (st : List Value) (S : ST), nx cod_X4_watchNight cut_X4_watchNight K (n + 1) 14 L st S = (O_ald stW 0) (nx cod_X4_watchNight cut_X4_watchNight K n) 14 L st S) ∧
  (∀ (K : Kt ST) (n : Nat) (L : xL) (st : List Value) (S : ST), nx cod_X4_watchNight cut_X4_watchNight K (n + 1) 15 L st S = (O_isub) (nx cod_X4_watchNight cut_X4_watchNight K n) 15 L st S) ∧
  (∀ (K : Kt ST) (n : Nat) (L : xL) (st : List Value) (S : ST), nx cod_X4_watchNight cut_X4_watchNight K (n + 1) 16 L st S = (O_int 1440 3) (nx cod_X4_watchNight cut_X4_watchNight K n) 16 L st S) ∧
  (∀ (K : Kt ST) (n : Nat) (L : xL) (st : List Value) (S : ST), nx cod_X4_watchNight cut_X4_watchNight K (n + 1) 19 L st S = (O_iadd) (nx cod_X4_watchNight cut_X4_watchNight K n) 19 L st S) ∧
  (∀ (K : Kt ST) (n : Nat) (L : xL) (st : List Value) (S : ST), nx cod_X4_watchNight cut_X4_watchNight K (n + 1) 20 L st S = (O_int 1440 3) (nx cod_X4_watchNight cut_X4_watchNight K n) 20 L st S) ∧
  (∀ (K : Kt ST) (n : Nat) (L : xL) (st : List Value) (S : ST), nx cod_X4_watchNight cut_X4_watchNight K (n + 1) 23 L st S = (O_irem) (nx cod_X4_watchNight cut_X4_watchNight K n) 23 L st S) ∧
  (∀ (K : Kt ST) (n : Nat) (L : xL) (st : List Value) (S : ST), nx cod_X4_watchNight cut_X4_watchNight K (n + 1) 24 L st S = (O_istore 1 1) (nx cod_X4_watchNight cut_X4_watchNight K n) 24 L st S) ∧
  (∀ (K : Kt ST) (n : Nat) (L : xL) (st : List Value) (S : ST), nx cod_X4_watchNight cut_X4_watchNight K (n + 1) 25 L st S = (O_iload 1 1) (nx cod_X4_watchNight cut_X4_watchNight K n) 25 L st S) ∧
  (∀ (K : Kt ST) (n : Nat) (L : xL) (st : List Value) (S : ST), nx cod_X4_watchNight cut_X4_watchNight K (n + 1) 26 L st S = (O_aload 0 1) (nx cod_X4_watchNight cut_X4_watchNight K n) 26 L st S) ∧
  (∀ (K : Kt ST) (n : Nat) (L : xL) (st : List Value) (S : ST), nx cod_X4_watchNight cut_X4_watchNight K (n + 1) 27 L st S = (O_getf stW 4 0) (nx cod_X4_watchNight cut_X4_watchNight K n) 27 L st S) ∧
  (∀ (K : Kt ST) (n : Nat) (L : xL) (st : List Value) (S : ST), nx cod_X4_watchNight cut_X4_watchNight K (n + 1) 30 L st S = (O_int 16 2) (nx cod_X4_watchNight cut_X4_watchNight K n) 30 L st S) ∧
  (∀ (K : Kt ST) (n : Nat) (L : xL) (st : List Value) (S : ST), nx cod_X4_watchNight cut_X4_watchNight K (n + 1) 32 L st S = (O_ald stW 0) (nx cod_X4_watchNight cut_X4_watchNight K n) 32 L st S) ∧
  (∀ (K : Kt ST) (n : Nat) (L : xL) (st : List Value) (S : ST), nx cod_X4_watchNight cut_X4_watchNight K (n + 1) 33 L st S = (O_icmp_lt 37) (nx cod_X4_watchNight cut_X4_watchNight K n) 33 L st S) ∧
  (∀ (K : Kt ST) (n : Nat) (L : xL) (st : List Value) (S : ST), nx cod_X4_watchNight cut_X4_watchNight K (n + 1) 36 L st S = (O_vret) (nx cod_X4_watchNight cut_X4_watchNight K n) 36 L st S) ∧
  (∀ (K : Kt ST) (n : Nat) (L : xL) (st : List Value) (S : ST), nx cod_X4_watchNight cut_X4_watchNight K (n + 1) 37 L st S = (O_aload 0 1) (nx cod_X4_watchNight cut_X4_watchNight K n) 37 L st S) ∧
  (∀ (K : Kt ST) (n : Nat) (L : xL) (st : List Value) (S : ST), nx cod_X4_watchNight cut_X4_watchNight K (n + 1) 38 L st S = (O_getf stW 4 3) (nx cod_X4_watchNight cut_X4_watchNight K n) 38 L st S) ∧
  (∀ (K : Kt ST) (n : Nat) (L : xL) (st : List Value) (S : ST), nx cod_X4_watchNight cut_X4_watchNight K (n + 1) 41 L st S = (O_dup) (nx cod_X4_watchNight cut_X4_watchNight K n) 41 L st S) ∧
  (∀ (K : Kt ST) (n : Nat) (L : xL) (st : List Value) (S : ST), nx cod_X4_watchNight cut_X4_watchNight K (n + 1) 42 L st S = (O_getf stW 1 2) (nx cod_X4_watchNight cut_X4_watchNight K n) 42 L st S) ∧
  (∀ (K : Kt ST) (n : Nat) (L : xL) (st : List Value) (S : ST), nx cod_X4_watchNight cut_X4_watchNight K (n + 1) 45 L st S = (O_aload 0 1) (nx cod_X4_watchNight cut_X4_watchNight K n) 45 L st S) ∧
  (∀ (K : Kt ST) (n : Nat) (L : xL) (st : List Value) (S : ST), nx cod_X4_watchNight cut_X4_watchNight K (n + 1) 46 L st S = (O_getf stW 4 9) (nx cod_X4_watchNight cut_X4_watchNight K n) 46 L st S) ∧
  (∀ (K : Kt ST) (n : Nat) (L : xL) (st : List Value) (S : ST), nx cod_X4_watchNight cut_X4_watchNight K (n + 1) 49 L st S = (O_iadd) (nx cod_X4_watchNight cut_X4_watchNight K n) 49 L st S) ∧
  (∀ (K : Kt ST) (n : Nat) (L : xL) (st : List Value) (S : ST), nx cod_X4_watchNight cut_X4_watchNight K (n + 1) 50 L st S = (O_puti stW_p1_2) (nx cod_X4_watchNight cut_X4_watchNight K n) 50 L st S) ∧
  (∀ (K : Kt ST) (n : Nat) (L : xL) (st : List Value) (S : ST), nx cod_X4_watchNight cut_X4_watchNight K (n + 1) 53 L st S = (O_iload 1 1) (nx cod_X4_watchNight cut_X4_watchNight K n) 53 L st S) ∧
  (∀ (K : Kt ST) (n : Nat) (L : xL) (st : List Value) (S : ST), nx cod_X4_watchNight cut_X4_watchNight K (n + 1) 54 L st S = (O_aload 0 1) (nx cod_X4_watchNight cut_X4_watchNight K n) 54 L st S) ∧
  (∀ (K : Kt ST) (n : Nat) (L : xL) (st : List Value) (S : ST), nx cod_X4_watchNight cut_X4_watchNight K (n + 1) 55 L st S = (O_getf stW 4 0) (nx cod_X4_watchNight cut_X4_watchNight K n) 55 L st S) ∧
  (∀ (K : Kt ST) (n : Nat) (L : xL) (st : List Value) (S : ST), nx cod_X4_watchNight cut_X4_watchNight K (n + 1) 58 L st S = (O_int 16 2) (nx cod_X4_watchNight cut_X4_watchNight K n) 58 L st S) ∧
  (∀ (K : Kt ST) (n : Nat) (L : xL) (st : List Value) (S : ST), nx cod_X4_watchNight cut_X4_watchNight K (n + 1) 60 L st S = (O_ald stW 0) (nx cod_X4_watchNight cut_X4_watchNight K n) 60 L st S) ∧
  (∀ (K : Kt ST) (n : Nat) (L : xL) (st : List Value) (S : ST), nx cod_X4_watchNight cut_X4_watchNight K (n + 1) 61 L st S = (O_int 1 1) (nx cod_X4_watchNight cut_X4_watchNight K n) 61 L st S) ∧
  (∀ (K : Kt ST) (n : Nat) (L : xL) (st : List Value) (S : ST), nx cod_X4_watchNight cut_X4_watchNight K (n + 1) 62 L st S = (O_isub) (nx cod_X4_watchNight cut_X4_watchNight K n) 62 L st S) ∧
  (∀ (K : Kt ST) (n : Nat) (L : xL) (st : List Value) (S : ST), nx cod_X4_watchNight cut_X4_watchNight K (n + 1) 63 L st S = (O_icmp_ge 67) (nx cod_X4_watchNight cut_X4_watchNight K n) 63 L st S) ∧
  (∀ (K : Kt ST) (n : Nat) (L : xL) (st : List Value) (S : ST), nx cod_X4_watchNight cut_X4_watchNight K (n + 1) 66 L st S = (O_vret) (nx cod_X4_watchNight cut_X4_watchNight K n) 66 L st S) ∧
  (∀ (K : Kt ST) (n : Nat) (L : xL) (st : List Value) (S : ST), nx cod_X4_watchNight cut_X4_watchNight K (n + 1) 67 L st S = (O_aload 0 1) (nx cod_X4_watchNight cut_X4_watchNight K n) 67 L st S) ∧
  (∀ (K : Kt ST) (n : Nat) (L : xL) (st : List Value) (S : ST), nx cod_X4_watchNight cut_X4_watchNight K (n + 1) 68 L st S = (O_getf stW 4 3) (nx cod_X4_watchNight cut_X4_watchNight K n) 68 L st S) ∧
  (∀ (K : Kt ST) (n : Nat) (L : xL) (st : List Value) (S : ST), nx cod_X4_watchNight cut_X4_watchNight K (n + 1) 71 L st S = (O_aload 0 1) (nx cod_X4_watchNight cut_X4_watchNight K n) 71 L st S) ∧
  (∀ (K : Kt ST) (n : Nat) (L : xL) (st : List Value) (S : ST), nx cod_X4_watchNight cut_X4_watchNight K (n + 1) 72 L st S = (O_getf stW 4 0) (nx cod_X4_watchNight cut_X4_watchNight K n) 72 L st S) ∧
  (∀ (K : Kt ST) (n : Nat) (L : xL) (st : List Value) (S : ST), nx cod_X4_watchNight cut_X4_watchNight K (n + 1) 75 L st S = (O_int 17 2) (nx cod_X4_watchNight cut_X4_watchNight K n) 75 L st S) ∧
  (∀ (K : Kt ST) (n : Nat) (L : xL) (st : List Value) (S : ST), nx cod_X4_watchNight cut_X4_watchNight K (n + 1) 77 L st S = (O_ald stW 0) (nx cod_X4_watchNight cut_X4_watchNight K n) 77 L st S) ∧
  (∀ (K : Kt ST) (n : Nat) (L : xL) (st : List Value) (S : ST), nx cod_X4_watchNight cut_X4_watchNight K (n + 1) 78 L st S = (O_callV 1 17 (fun S : ST => S.N) (fun S u => S.sN u) sp_X1_tellLeak) (nx cod_X4_watchNight cut_X4_watchNight K n) 78 L st S) ∧
  (∀ (K : Kt ST) (n : Nat) (L : xL) (st : List Value) (S : ST), nx cod_X4_watchNight cut_X4_watchNight K (n + 1) 81 L st S = (O_if_eq 111) (nx cod_X4_watchNight cut_X4_watchNight K n) 81 L st S) ∧
  (∀ (K : Kt ST) (n : Nat) (L : xL) (st : List Value) (S : ST), nx cod_X4_watchNight cut_X4_watchNight K (n + 1) 84 L st S = (O_aload 0 1) (nx cod_X4_watchNight cut_X4_watchNight K n) 84 L st S) ∧
  (∀ (K : Kt ST) (n : Nat) (L : xL) (st : List Value) (S : ST), nx cod_X4_watchNight cut_X4_watchNight K (n + 1) 85 L st S = (O_getf stW 4 3) (nx cod_X4_watchNight cut_X4_watchNight K n) 85 L st S) ∧
  (∀ (K : Kt ST) (n : Nat) (L : xL) (st : List Value) (S : ST), nx cod_X4_watchNight cut_X4_watchNight K (n + 1) 88 L st S = (O_dup) (nx cod_X4_watchNight cut_X4_watchNight K n) 88 L st S) ∧
  (∀ (K : Kt ST) (n : Nat) (L : xL) (st : List Value) (S : ST), nx cod_X4_watchNight cut_X4_watchNight K (n + 1) 89 L st S = (O_getf stW 1 3) (nx cod_X4_watchNight cut_X4_watchNight K n) 89 L st S) ∧
  (∀ (K : Kt ST) (n : Nat) (L : xL) (st : List Value) (S : ST), nx cod_X4_watchNight cut_X4_watchNight K (n + 1) 92 L st S = (O_int 1 1) (nx cod_X4_watchNight cut_X4_watchNight K n) 92 L st S) ∧
  (∀ (K : Kt ST) (n : Nat) (L : xL) (st : List Value) (S : ST), nx cod_X4_watchNight cut_X4_watchNight K (n + 1) 93 L st S = (O_iadd) (nx cod_X4_watchNight cut_X4_watchNight K n) 93 L st S) ∧
  (∀ (K : Kt ST) (n : Nat) (L : xL) (st : List Value) (S : ST), nx cod_X4_watchNight cut_X4_watchNight K (n + 1) 94 L st S = (O_puti stW_p1_3) (nx cod_X4_watchNight cut_X4_watchNight K n) 94 L st S) ∧
  (∀ (K : Kt ST) (n : Nat) (L : xL) (st : List Value) (S : ST), nx cod_X4_watchNight cut_X4_watchNight K (n + 1) 97 L st S = (O_aload 0 1) (nx cod_X4_watchNight cut_X4_watchNight K n) 97 L st S) ∧
  (∀ (K : Kt ST) (n : Nat) (L : xL) (st : List Value) (S : ST), nx cod_X4_watchNight cut_X4_watchNight K (n + 1) 98 L st S = (O_getf stW 4 4) (nx cod_X4_watchNight cut_X4_watchNight K n) 98 L st S) ∧
  (∀ (K : Kt ST) (n : Nat) (L : xL) (st : List Value) (S : ST), nx cod_X4_watchNight cut_X4_watchNight K (n + 1) 101 L st S = (O_int 6 2) (nx cod_X4_watchNight cut_X4_watchNight K n) 101 L st S) ∧
  (∀ (K : Kt ST) (n : Nat) (L : xL) (st : List Value) (S : ST), nx cod_X4_watchNight cut_X4_watchNight K (n + 1) 103 L st S = (O_aload 0 1) (nx cod_X4_watchNight cut_X4_watchNight K n) 103 L st S) ∧
  (∀ (K : Kt ST) (n : Nat) (L : xL) (st : List Value) (S : ST), nx cod_X4_watchNight cut_X4_watchNight K (n + 1) 104 L st S = (O_getf stW 4 5) (nx cod_X4_watchNight cut_X4_watchNight K n) 104 L st S) ∧
  (∀ (K : Kt ST) (n : Nat) (L : xL) (st : List Value) (S : ST), nx cod_X4_watchNight cut_X4_watchNight K (n + 1) 107 L st S = (O_int (-1) 1) (nx cod_X4_watchNight cut_X4_watchNight K n) 107 L st S) ∧
  (∀ (K : Kt ST) (n : Nat) (L : xL) (st : List Value) (S : ST), nx cod_X4_watchNight cut_X4_watchNight K (n + 1) 108 L st S = (O_callV 3 19 (fun S : ST => S.E) (fun S u => S.sE u) sp_X0_add) (nx cod_X4_watchNight cut_X4_watchNight K n) 108 L st S) ∧
  (∀ (K : Kt ST) (n : Nat) (L : xL) (st : List Value) (S : ST), nx cod_X4_watchNight cut_X4_watchNight K (n + 1) 111 L st S = (O_aload 0 1) (nx cod_X4_watchNight cut_X4_watchNight K n) 111 L st S) ∧
  (∀ (K : Kt ST) (n : Nat) (L : xL) (st : List Value) (S : ST), nx cod_X4_watchNight cut_X4_watchNight K (n + 1) 112 L st S = (O_getf stW 4 3) (nx cod_X4_watchNight cut_X4_watchNight K n) 112 L st S) ∧
  (∀ (K : Kt ST) (n : Nat) (L : xL) (st : List Value) (S : ST), nx cod_X4_watchNight cut_X4_watchNight K (n + 1) 115 L st S = (O_callV 0 17 (fun S : ST => S.N) (fun S u => S.sN u) sp_X1_note) (nx cod_X4_watchNight cut_X4_watchNight K n) 115 L st S) ∧
  (∀ (K : Kt ST) (n : Nat) (L : xL) (st : List Value) (S : ST), nx cod_X4_watchNight cut_X4_watchNight K (n + 1) 118 L st S = (O_vret) (nx cod_X4_watchNight cut_X4_watchNight K n) 118 L st S) ∧
  (∀ (K : Kt ST) (n : Nat) (L : xL) (st : List Value) (S : ST), nx cod_X4_watchNight cut_X4_watchNight K (n + 1) 100000 L st S = K 100000 L st S) := by
  repeat' apply And.intro
  all_goals (intros; rfl)
set_option maxRecDepth 100000 in
theorem mk_X4_watchNight {P P' : ST} {r : Option Value}  (body : ∀ E : En, CodOk E stW cod_X4_watchNight → Gd E stW 100000 [] r.toList P' → Gd E stW 0 [some (.ref 0), none] [] P) : Con yX4_watchNight cX4_watchNight 2 none 2 stW [.ref 0] P r P' :=
  Con.of (by decide) rfl rfl (Nat.le_of_ble_eq_true rfl) (fun E F G hr => body E (okc_X4_watchNight F G) hr)
theorem con_X4_watchNight (S : ST)  (hp : S.ok) : Con yX4_watchNight cX4_watchNight 2 none 2 stW [.ref 0] S (none) (S.night) := by
  refine mk_X4_watchNight (fun E C hr => ?_)
  obtain ⟨h1, h2, h3⟩ := hp
  (refine nx_ok C (cuts := cut_X4_watchNight) 1000 _ _ _ _ ?_; simp only [w_X4_watchNight, ops_eq, xst_eq, call_eq, oK_eq, Option.toList_some, Option.toList_none, List.cons_append, List.nil_append, List.length_cons, List.length_nil, true_and, and_true, Nat.reduceAdd, stW_F, stW_A, stW_S, stW_P, ST_id, ST_gs, PT_gs, ZT_gs, NT_gs, ET_gs, se_X1_tellLeak, se_X0_add, se_X1_note, v19_eq, v8_eq, cl_eq, dv_eq, bI_eq, NT_ok, rem_eq])
  ((repeat' (with_reducible first | apply And.intro | intro _)) <;> simp_all [ST.night, ST.night1, ST.night2, ST.into, ST.event, ST_id, ST_gs, PT_gs, ZT_gs, NT_gs, ET_gs])
def sp_X4_watchNight : Sp ST := fun av S K => match av with
  | [.ref 0] => (S.ok) ∧ K (none) (S.night)
  | _ => False
theorem se_X4_watchNight  (S : ST) (K : Option Value → ST → Prop) : sp_X4_watchNight [.ref 0] S K = ((S.ok) ∧ K (none) (S.night)) := rfl
theorem spok_X4_watchNight : SpOk yX4_watchNight cX4_watchNight 2 none 2 stW sp_X4_watchNight := by
  intro av S K h
  unfold sp_X4_watchNight at h
  split at h
  · exact ⟨none, S.night, trivial, con_X4_watchNight S  h.1, h.2⟩
  · exact h.elim
def ST.goOn (S : ST) : ST := if ¬ S.dry = 0 ∧ ¬ S.level < S.settings 12 then (S.sDry 0).event 5 (-1) else S
theorem flX4_89 : fldOk RX4 89 4 11 = true := by decide +kernel
def cod_X4_goOnIfFilled : List (Nat × Op ST) := [(0, O_aload 0 1), (1, O_getf stW 4 11), (4, O_if_eq 39), (7, O_aload 0 1), (8, O_getf stW 4 7), (11, O_aload 0 1), (12, O_getf stW 4 0), (15, O_int 12 2), (17, O_ald stW 0), (18, O_icmp_lt 39), (21, O_aload 0 1), (22, O_int 0 1), (23, O_putn .boolean stW_p4_11), (26, O_aload 0 1), (27, O_getf stW 4 4), (30, O_int 5 1), (31, O_aload 0 1), (32, O_getf stW 4 5), (35, O_int (-1) 1), (36, O_callV 3 19 (fun S : ST => S.E) (fun S u => S.sE u) sp_X0_add), (39, O_vret)]
abbrev cut_X4_goOnIfFilled : List Nat := []
set_option maxRecDepth 100000 in
theorem okc_X4_goOnIfFilled {E : En} (F : Fx E RX4 cX4_goOnIfFilled 1 1) (G : Fr E none) : CodOk E stW cod_X4_goOnIfFilled := by
  unfold CodOk cod_X4_goOnIfFilled
  refine List.forall_mem_cons.mpr ⟨ok_aload_n F dX4_goOnIfFilled_0 rfl (by decide), ?_⟩
  refine List.forall_mem_cons.mpr ⟨ok_getf F flX4_89 dX4_goOnIfFilled_1 (by decide), ?_⟩
  refine List.forall_mem_cons.mpr ⟨ok_if_eq F dX4_goOnIfFilled_4 (by decide) (by decide) (by decide), ?_⟩
  refine List.forall_mem_cons.mpr ⟨ok_aload_n F dX4_goOnIfFilled_7 rfl (by decide), ?_⟩
  refine List.forall_mem_cons.mpr ⟨ok_getf F flX4_51 dX4_goOnIfFilled_8 (by decide), ?_⟩
  refine List.forall_mem_cons.mpr ⟨ok_aload_n F dX4_goOnIfFilled_11 rfl (by decide), ?_⟩
  refine List.forall_mem_cons.mpr ⟨ok_getf F flX4_18 dX4_goOnIfFilled_12 (by decide), ?_⟩
  refine List.forall_mem_cons.mpr ⟨ok_bipush F dX4_goOnIfFilled_15 (by decide) (by decide), ?_⟩
  refine List.forall_mem_cons.mpr ⟨ok_iald F dX4_goOnIfFilled_17 (by decide), ?_⟩
  refine List.forall_mem_cons.mpr ⟨ok_icmp_lt F dX4_goOnIfFilled_18 (by decide) (by decide) (by decide), ?_⟩
  refine List.forall_mem_cons.mpr ⟨ok_aload_n F dX4_goOnIfFilled_21 rfl (by decide), ?_⟩
  refine List.forall_mem_cons.mpr ⟨ok_iconst F dX4_goOnIfFilled_22 (by decide) (by decide), ?_⟩
  refine List.forall_mem_cons.mpr ⟨ok_putn F stW_p4_11_ok (fun _ _ _ h => by cases h; rfl) rfl flX4_89 dX4_goOnIfFilled_23 (by decide), ?_⟩
  refine List.forall_mem_cons.mpr ⟨ok_aload_n F dX4_goOnIfFilled_26 rfl (by decide), ?_⟩
  refine List.forall_mem_cons.mpr ⟨ok_getf F flX4_47 dX4_goOnIfFilled_27 (by decide), ?_⟩
  refine List.forall_mem_cons.mpr ⟨ok_iconst F dX4_goOnIfFilled_30 (by decide) (by decide), ?_⟩
  refine List.forall_mem_cons.mpr ⟨ok_aload_n F dX4_goOnIfFilled_31 rfl (by decide), ?_⟩
  refine List.forall_mem_cons.mpr ⟨ok_getf F flX4_74 dX4_goOnIfFilled_32 (by decide), ?_⟩
  refine List.forall_mem_cons.mpr ⟨ok_iconst F dX4_goOnIfFilled_35 (by decide) (by decide), ?_⟩
  refine List.forall_mem_cons.mpr ⟨ok_callV F spok_X0_add ln_st_E rcv_eW (by decide +kernel) (by decide) dX4_goOnIfFilled_36 (by decide), ?_⟩
  refine List.forall_mem_cons.mpr ⟨ok_vret F G dX4_goOnIfFilled_39 (by decide), ?_⟩
  exact fun _ h => absurd h List.not_mem_nil
set_option maxRecDepth 100000 in
theorem w_X4_goOnIfFilled : (∀ (K : Kt ST) (n : Nat) (L : xL) (st : List Value) (S : ST), nx cod_X4_goOnIfFilled cut_X4_goOnIfFilled K (n + 1) 0 L st S = (O_aload 0 1) (nx cod_X4_goOnIfFilled cut_X4_goOnIfFilled K n) 0 L st S) ∧
  (∀ (K : Kt ST) (n : Nat) (L : xL) (st : List Value) (S : ST), nx cod_X4_goOnIfFilled cut_X4_goOnIfFilled K (n + 1) 1 L st S = (O_getf stW 4 11) (nx cod_X4_goOnIfFilled cut_X4_goOnIfFilled K n) 1 L st S) ∧
  (∀ (K : Kt ST) (n : Nat) (L : xL) (st : List Value) (S : ST), nx cod_X4_goOnIfFilled cut_X4_goOnIfFilled K (n + 1) 4 L st S = (O_if_eq 39) (nx cod_X4_goOnIfFilled cut_X4_goOnIfFilled K n) 4 L st S) ∧
  (∀ (K : Kt ST) (n : Nat) (L : xL) (st : List Value) (S : ST), nx cod_X4_goOnIfFilled cut_X4_goOnIfFilled K (n + 1) 7 L st S = (O_aload 0 1) (nx cod_X4_goOnIfFilled cut_X4_goOnIfFilled K n) 7 L st S) ∧
  (∀ (K : Kt ST) (n : Nat) (L : xL) (st : List Value) (S : ST), nx cod_X4_goOnIfFilled cut_X4_goOnIfFilled K (n + 1) 8 L st S = (O_getf stW 4 7) (nx cod_X4_goOnIfFilled cut_X4_goOnIfFilled K n) 8 L st S) ∧
  (∀ (K : Kt ST) (n : Nat) (L : xL) (st : List Value) (S : ST), nx cod_X4_goOnIfFilled cut_X4_goOnIfFilled K (n + 1) 11 L st S = (O_aload 0 1) (nx cod_X4_goOnIfFilled cut_X4_goOnIfFilled K n) 11 L st S) ∧
  (∀ (K : Kt ST) (n : Nat) (L : xL) (st : List Value) (S : ST), nx cod_X4_goOnIfFilled cut_X4_goOnIfFilled K (n + 1) 12 L st S = (O_getf stW 4 0) (nx cod_X4_goOnIfFilled cut_X4_goOnIfFilled K n) 12 L st S) ∧
  (∀ (K : Kt ST) (n : Nat) (L : xL) (st : List Value) (S : ST), nx cod_X4_goOnIfFilled cut_X4_goOnIfFilled K (n + 1) 15 L st S = (O_int 12 2) (nx cod_X4_goOnIfFilled cut_X4_goOnIfFilled K n) 15 L st S) ∧
  (∀ (K : Kt ST) (n : Nat) (L : xL) (st : List Value) (S : ST), nx cod_X4_goOnIfFilled cut_X4_goOnIfFilled K (n + 1) 17 L st S = (O_ald stW 0) (nx cod_X4_goOnIfFilled cut_X4_goOnIfFilled K n) 17 L st S) ∧
  (∀ (K : Kt ST) (n : Nat) (L : xL) (st : List Value) (S : ST), nx cod_X4_goOnIfFilled cut_X4_goOnIfFilled K (n + 1) 18 L st S = (O_icmp_lt 39) (nx cod_X4_goOnIfFilled cut_X4_goOnIfFilled K n) 18 L st S) ∧
  (∀ (K : Kt ST) (n : Nat) (L : xL) (st : List Value) (S : ST), nx cod_X4_goOnIfFilled cut_X4_goOnIfFilled K (n + 1) 21 L st S = (O_aload 0 1) (nx cod_X4_goOnIfFilled cut_X4_goOnIfFilled K n) 21 L st S) ∧
  (∀ (K : Kt ST) (n : Nat) (L : xL) (st : List Value) (S : ST), nx cod_X4_goOnIfFilled cut_X4_goOnIfFilled K (n + 1) 22 L st S = (O_int 0 1) (nx cod_X4_goOnIfFilled cut_X4_goOnIfFilled K n) 22 L st S) ∧
  (∀ (K : Kt ST) (n : Nat) (L : xL) (st : List Value) (S : ST), nx cod_X4_goOnIfFilled cut_X4_goOnIfFilled K (n + 1) 23 L st S = (O_putn .boolean stW_p4_11) (nx cod_X4_goOnIfFilled cut_X4_goOnIfFilled K n) 23 L st S) ∧
  (∀ (K : Kt ST) (n : Nat) (L : xL) (st : List Value) (S : ST), nx cod_X4_goOnIfFilled cut_X4_goOnIfFilled K (n + 1) 26 L st S = (O_aload 0 1) (nx cod_X4_goOnIfFilled cut_X4_goOnIfFilled K n) 26 L st S) ∧
  (∀ (K : Kt ST) (n : Nat) (L : xL) (st : List Value) (S : ST), nx cod_X4_goOnIfFilled cut_X4_goOnIfFilled K (n + 1) 27 L st S = (O_getf stW 4 4) (nx cod_X4_goOnIfFilled cut_X4_goOnIfFilled K n) 27 L st S) ∧
  (∀ (K : Kt ST) (n : Nat) (L : xL) (st : List Value) (S : ST), nx cod_X4_goOnIfFilled cut_X4_goOnIfFilled K (n + 1) 30 L st S = (O_int 5 1) (nx cod_X4_goOnIfFilled cut_X4_goOnIfFilled K n) 30 L st S) ∧
  (∀ (K : Kt ST) (n : Nat) (L : xL) (st : List Value) (S : ST), nx cod_X4_goOnIfFilled cut_X4_goOnIfFilled K (n + 1) 31 L st S = (O_aload 0 1) (nx cod_X4_goOnIfFilled cut_X4_goOnIfFilled K n) 31 L st S) ∧
  (∀ (K : Kt ST) (n : Nat) (L : xL) (st : List Value) (S : ST), nx cod_X4_goOnIfFilled cut_X4_goOnIfFilled K (n + 1) 32 L st S = (O_getf stW 4 5) (nx cod_X4_goOnIfFilled cut_X4_goOnIfFilled K n) 32 L st S) ∧
  (∀ (K : Kt ST) (n : Nat) (L : xL) (st : List Value) (S : ST), nx cod_X4_goOnIfFilled cut_X4_goOnIfFilled K (n + 1) 35 L st S = (O_int (-1) 1) (nx cod_X4_goOnIfFilled cut_X4_goOnIfFilled K n) 35 L st S) ∧
  (∀ (K : Kt ST) (n : Nat) (L : xL) (st : List Value) (S : ST), nx cod_X4_goOnIfFilled cut_X4_goOnIfFilled K (n + 1) 36 L st S = (O_callV 3 19 (fun S : ST => S.E) (fun S u => S.sE u) sp_X0_add) (nx cod_X4_goOnIfFilled cut_X4_goOnIfFilled K n) 36 L st S) ∧
  (∀ (K : Kt ST) (n : Nat) (L : xL) (st : List Value) (S : ST), nx cod_X4_goOnIfFilled cut_X4_goOnIfFilled K (n + 1) 39 L st S = (O_vret) (nx cod_X4_goOnIfFilled cut_X4_goOnIfFilled K n) 39 L st S) ∧
  (∀ (K : Kt ST) (n : Nat) (L : xL) (st : List Value) (S : ST), nx cod_X4_goOnIfFilled cut_X4_goOnIfFilled K (n + 1) 100000 L st S = K 100000 L st S) := by
  repeat' apply And.intro
  all_goals (intros; rfl)
set_option maxRecDepth 100000 in
theorem mk_X4_goOnIfFilled {P P' : ST} {r : Option Value}  (body : ∀ E : En, CodOk E stW cod_X4_goOnIfFilled → Gd E stW 100000 [] r.toList P' → Gd E stW 0 [some (.ref 0)] [] P) : Con yX4_goOnIfFilled cX4_goOnIfFilled 1 none 1 stW [.ref 0] P r P' :=
  Con.of (by decide) rfl rfl (Nat.le_of_ble_eq_true rfl) (fun E F G hr => body E (okc_X4_goOnIfFilled F G) hr)
theorem con_X4_goOnIfFilled (S : ST)  : Con yX4_goOnIfFilled cX4_goOnIfFilled 1 none 1 stW [.ref 0] S (none) (S.goOn) := by
  refine mk_X4_goOnIfFilled (fun E C hr => ?_)
  (refine nx_ok C (cuts := cut_X4_goOnIfFilled) 1000 _ _ _ _ ?_; simp only [w_X4_goOnIfFilled, ops_eq, xst_eq, call_eq, oK_eq, Option.toList_some, Option.toList_none, List.cons_append, List.nil_append, List.length_cons, List.length_nil, true_and, and_true, Nat.reduceAdd, stW_F, stW_A, stW_S, stW_P, ST_id, ST_gs, PT_gs, ZT_gs, NT_gs, ET_gs, se_X0_add, v19_eq, v8_eq, cl_eq, show narrow .boolean (.int 0) = .int 0 from rfl, show fits .boolean (.int 0) = true from rfl])
  ((repeat' (with_reducible first | apply And.intro | intro _)) <;> simp_all [ST.goOn, ST.event, ST_id, ST_gs, PT_gs, ZT_gs, NT_gs, ET_gs])
def sp_X4_goOnIfFilled : Sp ST := fun av S K => match av with
  | [.ref 0] => K (none) (S.goOn)
  | _ => False
theorem se_X4_goOnIfFilled  (S : ST) (K : Option Value → ST → Prop) : sp_X4_goOnIfFilled [.ref 0] S K = (K (none) (S.goOn)) := rfl
theorem spok_X4_goOnIfFilled : SpOk yX4_goOnIfFilled cX4_goOnIfFilled 1 none 1 stW sp_X4_goOnIfFilled := by
  intro av S K h
  unfold sp_X4_goOnIfFilled at h
  split at h
  · exact ⟨none, S.goOn, trivial, con_X4_goOnIfFilled S , h⟩
  · exact h.elim
theorem flX4_96 : fldOk RX4 96 4 13 = true := by decide +kernel
def cod_X4_forgetTrips : List (Nat × Op ST) := [(0, O_aload 0 1), (1, O_int 0 1), (2, O_puti stW_p4_13), (5, O_aload 0 1), (6, O_callV 0 0 (fun S => S) (fun _ S' => S') sp_X4_goOnIfFilled), (9, O_vret)]
abbrev cut_X4_forgetTrips : List Nat := []
set_option maxRecDepth 100000 in
theorem okc_X4_forgetTrips {E : En} (F : Fx E RX4 cX4_forgetTrips 1 2) (G : Fr E none) : CodOk E stW cod_X4_forgetTrips := by
  unfold CodOk cod_X4_forgetTrips
  refine List.forall_mem_cons.mpr ⟨ok_aload_n F dX4_forgetTrips_0 rfl (by decide), ?_⟩
  refine List.forall_mem_cons.mpr ⟨ok_iconst F dX4_forgetTrips_1 (by decide) (by decide), ?_⟩
  refine List.forall_mem_cons.mpr ⟨ok_puti F stW_p4_13_ok (fun _ _ _ h => by cases h; rfl) rfl flX4_96 dX4_forgetTrips_2 (by decide), ?_⟩
  refine List.forall_mem_cons.mpr ⟨ok_aload_n F dX4_forgetTrips_5 rfl (by decide), ?_⟩
  refine List.forall_mem_cons.mpr ⟨ok_callV F spok_X4_goOnIfFilled (ln_id stW) rcv_stW (by decide +kernel) (by decide) dX4_forgetTrips_6 (by decide), ?_⟩
  refine List.forall_mem_cons.mpr ⟨ok_vret F G dX4_forgetTrips_9 (by decide), ?_⟩
  exact fun _ h => absurd h List.not_mem_nil
set_option maxRecDepth 100000 in
theorem w_X4_forgetTrips : (∀ (K : Kt ST) (n : Nat) (L : xL) (st : List Value) (S : ST), nx cod_X4_forgetTrips cut_X4_forgetTrips K (n + 1) 0 L st S = (O_aload 0 1) (nx cod_X4_forgetTrips cut_X4_forgetTrips K n) 0 L st S) ∧
  (∀ (K : Kt ST) (n : Nat) (L : xL) (st : List Value) (S : ST), nx cod_X4_forgetTrips cut_X4_forgetTrips K (n + 1) 1 L st S = (O_int 0 1) (nx cod_X4_forgetTrips cut_X4_forgetTrips K n) 1 L st S) ∧
  (∀ (K : Kt ST) (n : Nat) (L : xL) (st : List Value) (S : ST), nx cod_X4_forgetTrips cut_X4_forgetTrips K (n + 1) 2 L st S = (O_puti stW_p4_13) (nx cod_X4_forgetTrips cut_X4_forgetTrips K n) 2 L st S) ∧
  (∀ (K : Kt ST) (n : Nat) (L : xL) (st : List Value) (S : ST), nx cod_X4_forgetTrips cut_X4_forgetTrips K (n + 1) 5 L st S = (O_aload 0 1) (nx cod_X4_forgetTrips cut_X4_forgetTrips K n) 5 L st S) ∧
  (∀ (K : Kt ST) (n : Nat) (L : xL) (st : List Value) (S : ST), nx cod_X4_forgetTrips cut_X4_forgetTrips K (n + 1) 6 L st S = (O_callV 0 0 (fun S => S) (fun _ S' => S') sp_X4_goOnIfFilled) (nx cod_X4_forgetTrips cut_X4_forgetTrips K n) 6 L st S) ∧
  (∀ (K : Kt ST) (n : Nat) (L : xL) (st : List Value) (S : ST), nx cod_X4_forgetTrips cut_X4_forgetTrips K (n + 1) 9 L st S = (O_vret) (nx cod_X4_forgetTrips cut_X4_forgetTrips K n) 9 L st S) ∧
  (∀ (K : Kt ST) (n : Nat) (L : xL) (st : List Value) (S : ST), nx cod_X4_forgetTrips cut_X4_forgetTrips K (n + 1) 100000 L st S = K 100000 L st S) := by
  repeat' apply And.intro
  all_goals (intros; rfl)
set_option maxRecDepth 100000 in
theorem mk_X4_forgetTrips {P P' : ST} {r : Option Value}  (body : ∀ E : En, CodOk E stW cod_X4_forgetTrips → Gd E stW 100000 [] r.toList P' → Gd E stW 0 [some (.ref 0)] [] P) : Con yX4_forgetTrips cX4_forgetTrips 1 none 2 stW [.ref 0] P r P' :=
  Con.of (by decide) rfl rfl (Nat.le_of_ble_eq_true rfl) (fun E F G hr => body E (okc_X4_forgetTrips F G) hr)
theorem con_X4_forgetTrips (S : ST)  : Con yX4_forgetTrips cX4_forgetTrips 1 none 2 stW [.ref 0] S (none) ((S.sTrips 0).goOn) := by
  refine mk_X4_forgetTrips (fun E C hr => ?_)
  (refine nx_ok C (cuts := cut_X4_forgetTrips) 1000 _ _ _ _ ?_; simp only [w_X4_forgetTrips, ops_eq, xst_eq, call_eq, oK_eq, Option.toList_some, Option.toList_none, List.cons_append, List.nil_append, List.length_cons, List.length_nil, true_and, and_true, Nat.reduceAdd, stW_F, stW_A, stW_S, stW_P, ST_id, ST_gs, PT_gs, ZT_gs, NT_gs, ET_gs, se_X4_goOnIfFilled])
  ((repeat' (with_reducible first | apply And.intro | intro _)) <;> simp_all [ST_id, ST_gs, PT_gs, ZT_gs, NT_gs, ET_gs])
def sp_X4_forgetTrips : Sp ST := fun av S K => match av with
  | [.ref 0] => K (none) ((S.sTrips 0).goOn)
  | _ => False
theorem se_X4_forgetTrips  (S : ST) (K : Option Value → ST → Prop) : sp_X4_forgetTrips [.ref 0] S K = (K (none) ((S.sTrips 0).goOn)) := rfl
theorem spok_X4_forgetTrips : SpOk yX4_forgetTrips cX4_forgetTrips 1 none 2 stW sp_X4_forgetTrips := by
  intro av S K h
  unfold sp_X4_forgetTrips at h
  split at h
  · exact ⟨none, (S.sTrips 0).goOn, trivial, con_X4_forgetTrips S , h⟩
  · exact h.elim
def ST.start (S : ST) (p v : Int32) : ST := (S.sP (S.P.start p v)).event 0 p
def ST.stop (S : ST) (p : Int32) : ST := if S.P.runs p = true then (S.sP (S.P.stop p)).event 1 p else S
def cod_X4_start : List (Nat × Op ST) := [(0, O_aload 0 1), (1, O_getf stW 4 1), (4, O_iload 1 1), (5, O_iload 2 1), (6, O_callV 2 2 (fun S : ST => S.P) (fun S u => S.sP u) sp_X3_start), (9, O_aload 0 1), (10, O_getf stW 4 4), (13, O_int 0 1), (14, O_aload 0 1), (15, O_getf stW 4 5), (18, O_iload 1 1), (19, O_callV 3 19 (fun S : ST => S.E) (fun S u => S.sE u) sp_X0_add), (22, O_vret)]
abbrev cut_X4_start : List Nat := []
set_option maxRecDepth 100000 in
theorem okc_X4_start {E : En} (F : Fx E RX4 cX4_start 3 2) (G : Fr E none) : CodOk E stW cod_X4_start := by
  unfold CodOk cod_X4_start
  refine List.forall_mem_cons.mpr ⟨ok_aload_n F dX4_start_0 rfl (by decide), ?_⟩
  refine List.forall_mem_cons.mpr ⟨ok_getf F flX4_26 dX4_start_1 (by decide), ?_⟩
  refine List.forall_mem_cons.mpr ⟨ok_iload_n F dX4_start_4 rfl (by decide), ?_⟩
  refine List.forall_mem_cons.mpr ⟨ok_iload_n F dX4_start_5 rfl (by decide), ?_⟩
  refine List.forall_mem_cons.mpr ⟨ok_callV F spok_X3_start ln_st_P rcv_pW (by decide +kernel) (by decide) dX4_start_6 (by decide), ?_⟩
  refine List.forall_mem_cons.mpr ⟨ok_aload_n F dX4_start_9 rfl (by decide), ?_⟩
  refine List.forall_mem_cons.mpr ⟨ok_getf F flX4_47 dX4_start_10 (by decide), ?_⟩
  refine List.forall_mem_cons.mpr ⟨ok_iconst F dX4_start_13 (by decide) (by decide), ?_⟩
  refine List.forall_mem_cons.mpr ⟨ok_aload_n F dX4_start_14 rfl (by decide), ?_⟩
  refine List.forall_mem_cons.mpr ⟨ok_getf F flX4_74 dX4_start_15 (by decide), ?_⟩
  refine List.forall_mem_cons.mpr ⟨ok_iload_n F dX4_start_18 rfl (by decide), ?_⟩
  refine List.forall_mem_cons.mpr ⟨ok_callV F spok_X0_add ln_st_E rcv_eW (by decide +kernel) (by decide) dX4_start_19 (by decide), ?_⟩
  refine List.forall_mem_cons.mpr ⟨ok_vret F G dX4_start_22 (by decide), ?_⟩
  exact fun _ h => absurd h List.not_mem_nil
set_option maxRecDepth 100000 in
theorem w_X4_start : (∀ (K : Kt ST) (n : Nat) (L : xL) (st : List Value) (S : ST), nx cod_X4_start cut_X4_start K (n + 1) 0 L st S = (O_aload 0 1) (nx cod_X4_start cut_X4_start K n) 0 L st S) ∧
  (∀ (K : Kt ST) (n : Nat) (L : xL) (st : List Value) (S : ST), nx cod_X4_start cut_X4_start K (n + 1) 1 L st S = (O_getf stW 4 1) (nx cod_X4_start cut_X4_start K n) 1 L st S) ∧
  (∀ (K : Kt ST) (n : Nat) (L : xL) (st : List Value) (S : ST), nx cod_X4_start cut_X4_start K (n + 1) 4 L st S = (O_iload 1 1) (nx cod_X4_start cut_X4_start K n) 4 L st S) ∧
  (∀ (K : Kt ST) (n : Nat) (L : xL) (st : List Value) (S : ST), nx cod_X4_start cut_X4_start K (n + 1) 5 L st S = (O_iload 2 1) (nx cod_X4_start cut_X4_start K n) 5 L st S) ∧
  (∀ (K : Kt ST) (n : Nat) (L : xL) (st : List Value) (S : ST), nx cod_X4_start cut_X4_start K (n + 1) 6 L st S = (O_callV 2 2 (fun S : ST => S.P) (fun S u => S.sP u) sp_X3_start) (nx cod_X4_start cut_X4_start K n) 6 L st S) ∧
  (∀ (K : Kt ST) (n : Nat) (L : xL) (st : List Value) (S : ST), nx cod_X4_start cut_X4_start K (n + 1) 9 L st S = (O_aload 0 1) (nx cod_X4_start cut_X4_start K n) 9 L st S) ∧
  (∀ (K : Kt ST) (n : Nat) (L : xL) (st : List Value) (S : ST), nx cod_X4_start cut_X4_start K (n + 1) 10 L st S = (O_getf stW 4 4) (nx cod_X4_start cut_X4_start K n) 10 L st S) ∧
  (∀ (K : Kt ST) (n : Nat) (L : xL) (st : List Value) (S : ST), nx cod_X4_start cut_X4_start K (n + 1) 13 L st S = (O_int 0 1) (nx cod_X4_start cut_X4_start K n) 13 L st S) ∧
  (∀ (K : Kt ST) (n : Nat) (L : xL) (st : List Value) (S : ST), nx cod_X4_start cut_X4_start K (n + 1) 14 L st S = (O_aload 0 1) (nx cod_X4_start cut_X4_start K n) 14 L st S) ∧
  (∀ (K : Kt ST) (n : Nat) (L : xL) (st : List Value) (S : ST), nx cod_X4_start cut_X4_start K (n + 1) 15 L st S = (O_getf stW 4 5) (nx cod_X4_start cut_X4_start K n) 15 L st S) ∧
  (∀ (K : Kt ST) (n : Nat) (L : xL) (st : List Value) (S : ST), nx cod_X4_start cut_X4_start K (n + 1) 18 L st S = (O_iload 1 1) (nx cod_X4_start cut_X4_start K n) 18 L st S) ∧
  (∀ (K : Kt ST) (n : Nat) (L : xL) (st : List Value) (S : ST), nx cod_X4_start cut_X4_start K (n + 1) 19 L st S = (O_callV 3 19 (fun S : ST => S.E) (fun S u => S.sE u) sp_X0_add) (nx cod_X4_start cut_X4_start K n) 19 L st S) ∧
  (∀ (K : Kt ST) (n : Nat) (L : xL) (st : List Value) (S : ST), nx cod_X4_start cut_X4_start K (n + 1) 22 L st S = (O_vret) (nx cod_X4_start cut_X4_start K n) 22 L st S) ∧
  (∀ (K : Kt ST) (n : Nat) (L : xL) (st : List Value) (S : ST), nx cod_X4_start cut_X4_start K (n + 1) 100000 L st S = K 100000 L st S) := by
  repeat' apply And.intro
  all_goals (intros; rfl)
set_option maxRecDepth 100000 in
theorem mk_X4_start {P P' : ST} {r : Option Value} {p0 : Int32} {p1 : Int32} (body : ∀ E : En, CodOk E stW cod_X4_start → Gd E stW 100000 [] r.toList P' → Gd E stW 0 [some (.ref 0), some (.int p0), some (.int p1)] [] P) : Con yX4_start cX4_start 3 none 2 stW [.ref 0, .int p0, .int p1] P r P' :=
  Con.of (by decide) rfl rfl (Nat.le_of_ble_eq_true rfl) (fun E F G hr => body E (okc_X4_start F G) hr)
theorem con_X4_start (S : ST) (p : Int32) (v : Int32) (hp : S.P.ok) : Con yX4_start cX4_start 3 none 2 stW [.ref 0, .int p, .int v] S (none) (S.start p v) := by
  refine mk_X4_start (fun E C hr => ?_)
  (refine nx_ok C (cuts := cut_X4_start) 1000 _ _ _ _ ?_; simp only [w_X4_start, ops_eq, xst_eq, call_eq, oK_eq, Option.toList_some, Option.toList_none, List.cons_append, List.nil_append, List.length_cons, List.length_nil, true_and, and_true, Nat.reduceAdd, stW_F, stW_A, stW_S, stW_P, ST_id, ST_gs, PT_gs, ZT_gs, NT_gs, ET_gs, se_X3_start, se_X0_add, v8_eq])
  ((repeat' (with_reducible first | apply And.intro | intro _)) <;> simp_all [ST.start, ST.event, ST_id, ST_gs, PT_gs, ZT_gs, NT_gs, ET_gs])
def sp_X4_start : Sp ST := fun av S K => match av with
  | [.ref 0, .int p, .int v] => (S.P.ok) ∧ K (none) (S.start p v)
  | _ => False
theorem se_X4_start (p : Int32) (v : Int32) (S : ST) (K : Option Value → ST → Prop) : sp_X4_start [.ref 0, .int p, .int v] S K = ((S.P.ok) ∧ K (none) (S.start p v)) := rfl
theorem spok_X4_start : SpOk yX4_start cX4_start 3 none 2 stW sp_X4_start := by
  intro av S K h
  unfold sp_X4_start at h
  split at h
  · rename_i p v; exact ⟨none, S.start p v, trivial, con_X4_start S p v h.1, h.2⟩
  · exact h.elim
def cod_X4_stop : List (Nat × Op ST) := [(0, O_aload 0 1), (1, O_getf stW 4 1), (4, O_iload 1 1), (5, O_callV 1 2 (fun S : ST => S.P) (fun S u => S.sP u) sp_X3_runs), (8, O_if_ne 13), (11, O_int 0 1), (12, O_zret), (13, O_aload 0 1), (14, O_getf stW 4 1), (17, O_iload 1 1), (18, O_callV 1 2 (fun S : ST => S.P) (fun S u => S.sP u) sp_X3_stop), (21, O_aload 0 1), (22, O_getf stW 4 4), (25, O_int 1 1), (26, O_aload 0 1), (27, O_getf stW 4 5), (30, O_iload 1 1), (31, O_callV 3 19 (fun S : ST => S.E) (fun S u => S.sE u) sp_X0_add), (34, O_int 1 1), (35, O_zret)]
abbrev cut_X4_stop : List Nat := []
set_option maxRecDepth 100000 in
theorem okc_X4_stop {E : En} (F : Fx E RX4 cX4_stop 2 2) (G : Fr E (some .boolean)) : CodOk E stW cod_X4_stop := by
  unfold CodOk cod_X4_stop
  refine List.forall_mem_cons.mpr ⟨ok_aload_n F dX4_stop_0 rfl (by decide), ?_⟩
  refine List.forall_mem_cons.mpr ⟨ok_getf F flX4_26 dX4_stop_1 (by decide), ?_⟩
  refine List.forall_mem_cons.mpr ⟨ok_iload_n F dX4_stop_4 rfl (by decide), ?_⟩
  refine List.forall_mem_cons.mpr ⟨ok_callV F spok_X3_runs ln_st_P rcv_pW (by decide +kernel) (by decide) dX4_stop_5 (by decide), ?_⟩
  refine List.forall_mem_cons.mpr ⟨ok_if_ne F dX4_stop_8 (by decide) (by decide) (by decide), ?_⟩
  refine List.forall_mem_cons.mpr ⟨ok_iconst F dX4_stop_11 (by decide) (by decide), ?_⟩
  refine List.forall_mem_cons.mpr ⟨ok_zret F G dX4_stop_12 (by decide), ?_⟩
  refine List.forall_mem_cons.mpr ⟨ok_aload_n F dX4_stop_13 rfl (by decide), ?_⟩
  refine List.forall_mem_cons.mpr ⟨ok_getf F flX4_26 dX4_stop_14 (by decide), ?_⟩
  refine List.forall_mem_cons.mpr ⟨ok_iload_n F dX4_stop_17 rfl (by decide), ?_⟩
  refine List.forall_mem_cons.mpr ⟨ok_callV F spok_X3_stop ln_st_P rcv_pW (by decide +kernel) (by decide) dX4_stop_18 (by decide), ?_⟩
  refine List.forall_mem_cons.mpr ⟨ok_aload_n F dX4_stop_21 rfl (by decide), ?_⟩
  refine List.forall_mem_cons.mpr ⟨ok_getf F flX4_47 dX4_stop_22 (by decide), ?_⟩
  refine List.forall_mem_cons.mpr ⟨ok_iconst F dX4_stop_25 (by decide) (by decide), ?_⟩
  refine List.forall_mem_cons.mpr ⟨ok_aload_n F dX4_stop_26 rfl (by decide), ?_⟩
  refine List.forall_mem_cons.mpr ⟨ok_getf F flX4_74 dX4_stop_27 (by decide), ?_⟩
  refine List.forall_mem_cons.mpr ⟨ok_iload_n F dX4_stop_30 rfl (by decide), ?_⟩
  refine List.forall_mem_cons.mpr ⟨ok_callV F spok_X0_add ln_st_E rcv_eW (by decide +kernel) (by decide) dX4_stop_31 (by decide), ?_⟩
  refine List.forall_mem_cons.mpr ⟨ok_iconst F dX4_stop_34 (by decide) (by decide), ?_⟩
  refine List.forall_mem_cons.mpr ⟨ok_zret F G dX4_stop_35 (by decide), ?_⟩
  exact fun _ h => absurd h List.not_mem_nil
set_option maxRecDepth 100000 in
theorem w_X4_stop : (∀ (K : Kt ST) (n : Nat) (L : xL) (st : List Value) (S : ST), nx cod_X4_stop cut_X4_stop K (n + 1) 0 L st S = (O_aload 0 1) (nx cod_X4_stop cut_X4_stop K n) 0 L st S) ∧
  (∀ (K : Kt ST) (n : Nat) (L : xL) (st : List Value) (S : ST), nx cod_X4_stop cut_X4_stop K (n + 1) 1 L st S = (O_getf stW 4 1) (nx cod_X4_stop cut_X4_stop K n) 1 L st S) ∧
  (∀ (K : Kt ST) (n : Nat) (L : xL) (st : List Value) (S : ST), nx cod_X4_stop cut_X4_stop K (n + 1) 4 L st S = (O_iload 1 1) (nx cod_X4_stop cut_X4_stop K n) 4 L st S) ∧
  (∀ (K : Kt ST) (n : Nat) (L : xL) (st : List Value) (S : ST), nx cod_X4_stop cut_X4_stop K (n + 1) 5 L st S = (O_callV 1 2 (fun S : ST => S.P) (fun S u => S.sP u) sp_X3_runs) (nx cod_X4_stop cut_X4_stop K n) 5 L st S) ∧
  (∀ (K : Kt ST) (n : Nat) (L : xL) (st : List Value) (S : ST), nx cod_X4_stop cut_X4_stop K (n + 1) 8 L st S = (O_if_ne 13) (nx cod_X4_stop cut_X4_stop K n) 8 L st S) ∧
  (∀ (K : Kt ST) (n : Nat) (L : xL) (st : List Value) (S : ST), nx cod_X4_stop cut_X4_stop K (n + 1) 11 L st S = (O_int 0 1) (nx cod_X4_stop cut_X4_stop K n) 11 L st S) ∧
  (∀ (K : Kt ST) (n : Nat) (L : xL) (st : List Value) (S : ST), nx cod_X4_stop cut_X4_stop K (n + 1) 12 L st S = (O_zret) (nx cod_X4_stop cut_X4_stop K n) 12 L st S) ∧
  (∀ (K : Kt ST) (n : Nat) (L : xL) (st : List Value) (S : ST), nx cod_X4_stop cut_X4_stop K (n + 1) 13 L st S = (O_aload 0 1) (nx cod_X4_stop cut_X4_stop K n) 13 L st S) ∧
  (∀ (K : Kt ST) (n : Nat) (L : xL) (st : List Value) (S : ST), nx cod_X4_stop cut_X4_stop K (n + 1) 14 L st S = (O_getf stW 4 1) (nx cod_X4_stop cut_X4_stop K n) 14 L st S) ∧
  (∀ (K : Kt ST) (n : Nat) (L : xL) (st : List Value) (S : ST), nx cod_X4_stop cut_X4_stop K (n + 1) 17 L st S = (O_iload 1 1) (nx cod_X4_stop cut_X4_stop K n) 17 L st S) ∧
  (∀ (K : Kt ST) (n : Nat) (L : xL) (st : List Value) (S : ST), nx cod_X4_stop cut_X4_stop K (n + 1) 18 L st S = (O_callV 1 2 (fun S : ST => S.P) (fun S u => S.sP u) sp_X3_stop) (nx cod_X4_stop cut_X4_stop K n) 18 L st S) ∧
  (∀ (K : Kt ST) (n : Nat) (L : xL) (st : List Value) (S : ST), nx cod_X4_stop cut_X4_stop K (n + 1) 21 L st S = (O_aload 0 1) (nx cod_X4_stop cut_X4_stop K n) 21 L st S) ∧
  (∀ (K : Kt ST) (n : Nat) (L : xL) (st : List Value) (S : ST), nx cod_X4_stop cut_X4_stop K (n + 1) 22 L st S = (O_getf stW 4 4) (nx cod_X4_stop cut_X4_stop K n) 22 L st S) ∧
  (∀ (K : Kt ST) (n : Nat) (L : xL) (st : List Value) (S : ST), nx cod_X4_stop cut_X4_stop K (n + 1) 25 L st S = (O_int 1 1) (nx cod_X4_stop cut_X4_stop K n) 25 L st S) ∧
  (∀ (K : Kt ST) (n : Nat) (L : xL) (st : List Value) (S : ST), nx cod_X4_stop cut_X4_stop K (n + 1) 26 L st S = (O_aload 0 1) (nx cod_X4_stop cut_X4_stop K n) 26 L st S) ∧
  (∀ (K : Kt ST) (n : Nat) (L : xL) (st : List Value) (S : ST), nx cod_X4_stop cut_X4_stop K (n + 1) 27 L st S = (O_getf stW 4 5) (nx cod_X4_stop cut_X4_stop K n) 27 L st S) ∧
  (∀ (K : Kt ST) (n : Nat) (L : xL) (st : List Value) (S : ST), nx cod_X4_stop cut_X4_stop K (n + 1) 30 L st S = (O_iload 1 1) (nx cod_X4_stop cut_X4_stop K n) 30 L st S) ∧
  (∀ (K : Kt ST) (n : Nat) (L : xL) (st : List Value) (S : ST), nx cod_X4_stop cut_X4_stop K (n + 1) 31 L st S = (O_callV 3 19 (fun S : ST => S.E) (fun S u => S.sE u) sp_X0_add) (nx cod_X4_stop cut_X4_stop K n) 31 L st S) ∧
  (∀ (K : Kt ST) (n : Nat) (L : xL) (st : List Value) (S : ST), nx cod_X4_stop cut_X4_stop K (n + 1) 34 L st S = (O_int 1 1) (nx cod_X4_stop cut_X4_stop K n) 34 L st S) ∧
  (∀ (K : Kt ST) (n : Nat) (L : xL) (st : List Value) (S : ST), nx cod_X4_stop cut_X4_stop K (n + 1) 35 L st S = (O_zret) (nx cod_X4_stop cut_X4_stop K n) 35 L st S) ∧
  (∀ (K : Kt ST) (n : Nat) (L : xL) (st : List Value) (S : ST), nx cod_X4_stop cut_X4_stop K (n + 1) 100000 L st S = K 100000 L st S) := by
  repeat' apply And.intro
  all_goals (intros; rfl)
set_option maxRecDepth 100000 in
theorem mk_X4_stop {P P' : ST} {r : Option Value} {p0 : Int32} (body : ∀ E : En, CodOk E stW cod_X4_stop → Gd E stW 100000 [] r.toList P' → Gd E stW 0 [some (.ref 0), some (.int p0)] [] P) : Con yX4_stop cX4_stop 2 (some .boolean) 2 stW [.ref 0, .int p0] P r P' :=
  Con.of (by decide) rfl rfl (Nat.le_of_ble_eq_true rfl) (fun E F G hr => body E (okc_X4_stop F G) hr)
theorem con_X4_stop (S : ST) (p : Int32) (hp : S.P.ok) : Con yX4_stop cX4_stop 2 (some .boolean) 2 stW [.ref 0, .int p] S (some (.int (bI (S.P.runs p)))) (S.stop p) := by
  refine mk_X4_stop (fun E C hr => ?_)
  (refine nx_ok C (cuts := cut_X4_stop) 1000 _ _ _ _ ?_; simp only [w_X4_stop, ops_eq, xst_eq, call_eq, oK_eq, Option.toList_some, Option.toList_none, List.cons_append, List.nil_append, List.length_cons, List.length_nil, true_and, and_true, Nat.reduceAdd, stW_F, stW_A, stW_S, stW_P, ST_id, ST_gs, PT_gs, ZT_gs, NT_gs, ET_gs, se_X3_runs, se_X3_stop, se_X0_add, v8_eq, bI_eq])
  ((repeat' (with_reducible first | apply And.intro | intro _)) <;> simp_all [ST.stop, ST.event, bI, ST_id, ST_gs, PT_gs, ZT_gs, NT_gs, ET_gs])
def sp_X4_stop : Sp ST := fun av S K => match av with
  | [.ref 0, .int p] => (S.P.ok) ∧ K (some (.int (bI (S.P.runs p)))) (S.stop p)
  | _ => False
theorem se_X4_stop (p : Int32) (S : ST) (K : Option Value → ST → Prop) : sp_X4_stop [.ref 0, .int p] S K = ((S.P.ok) ∧ K (some (.int (bI (S.P.runs p)))) (S.stop p)) := rfl
theorem spok_X4_stop : SpOk yX4_stop cX4_stop 2 (some .boolean) 2 stW sp_X4_stop := by
  intro av S K h
  unfold sp_X4_stop at h
  split at h
  · rename_i p; exact ⟨some (.int (bI (S.P.runs p))), S.stop p, trivial, con_X4_stop S p h.1, h.2⟩
  · exact h.elim
def ST.chg (S : ST) (p is : Int32) : ST := S.sP (S.P.sInService (upd S.P.inService p.toNatClampNeg is))
def ST.change (S : ST) (p is : Int32) : ST := if is = 0 then (S.chg p is).stop p else S.chg p is
theorem flX4_188 : fldOk RX4 188 3 3 = true := by decide +kernel
def cod_X4_changeService : List (Nat × Op ST) := [(0, O_aload 0 1), (1, O_getf stW 4 1), (4, O_getf stW 3 3), (7, O_iload 1 1), (8, O_iload 2 1), (9, O_ast stW 1 stW_sa), (10, O_iload 2 1), (11, O_if_ne 26), (14, O_aload 0 1), (15, O_iload 1 1), (16, O_callV 1 0 (fun S => S) (fun _ S' => S') sp_X4_stop), (19, O_if_eq 26), (22, O_int 1 1), (23, O_goto 27), (26, O_int 0 1), (27, O_zret)]
abbrev cut_X4_changeService : List Nat := []
set_option maxRecDepth 100000 in
theorem okc_X4_changeService {E : En} (F : Fx E RX4 cX4_changeService 3 3) (G : Fr E (some .boolean)) : CodOk E stW cod_X4_changeService := by
  unfold CodOk cod_X4_changeService
  refine List.forall_mem_cons.mpr ⟨ok_aload_n F dX4_changeService_0 rfl (by decide), ?_⟩
  refine List.forall_mem_cons.mpr ⟨ok_getf F flX4_26 dX4_changeService_1 (by decide), ?_⟩
  refine List.forall_mem_cons.mpr ⟨ok_getf F flX4_188 dX4_changeService_4 (by decide), ?_⟩
  refine List.forall_mem_cons.mpr ⟨ok_iload_n F dX4_changeService_7 rfl (by decide), ?_⟩
  refine List.forall_mem_cons.mpr ⟨ok_iload_n F dX4_changeService_8 rfl (by decide), ?_⟩
  refine List.forall_mem_cons.mpr ⟨ok_zast F stW_sar dX4_changeService_9 (by decide), ?_⟩
  refine List.forall_mem_cons.mpr ⟨ok_iload_n F dX4_changeService_10 rfl (by decide), ?_⟩
  refine List.forall_mem_cons.mpr ⟨ok_if_ne F dX4_changeService_11 (by decide) (by decide) (by decide), ?_⟩
  refine List.forall_mem_cons.mpr ⟨ok_aload_n F dX4_changeService_14 rfl (by decide), ?_⟩
  refine List.forall_mem_cons.mpr ⟨ok_iload_n F dX4_changeService_15 rfl (by decide), ?_⟩
  refine List.forall_mem_cons.mpr ⟨ok_callV F spok_X4_stop (ln_id stW) rcv_stW (by decide +kernel) (by decide) dX4_changeService_16 (by decide), ?_⟩
  refine List.forall_mem_cons.mpr ⟨ok_if_eq F dX4_changeService_19 (by decide) (by decide) (by decide), ?_⟩
  refine List.forall_mem_cons.mpr ⟨ok_iconst F dX4_changeService_22 (by decide) (by decide), ?_⟩
  refine List.forall_mem_cons.mpr ⟨ok_goto F dX4_changeService_23 (by decide) (by decide) (by decide), ?_⟩
  refine List.forall_mem_cons.mpr ⟨ok_iconst F dX4_changeService_26 (by decide) (by decide), ?_⟩
  refine List.forall_mem_cons.mpr ⟨ok_zret F G dX4_changeService_27 (by decide), ?_⟩
  exact fun _ h => absurd h List.not_mem_nil
set_option maxRecDepth 100000 in
theorem w_X4_changeService : (∀ (K : Kt ST) (n : Nat) (L : xL) (st : List Value) (S : ST), nx cod_X4_changeService cut_X4_changeService K (n + 1) 0 L st S = (O_aload 0 1) (nx cod_X4_changeService cut_X4_changeService K n) 0 L st S) ∧
  (∀ (K : Kt ST) (n : Nat) (L : xL) (st : List Value) (S : ST), nx cod_X4_changeService cut_X4_changeService K (n + 1) 1 L st S = (O_getf stW 4 1) (nx cod_X4_changeService cut_X4_changeService K n) 1 L st S) ∧
  (∀ (K : Kt ST) (n : Nat) (L : xL) (st : List Value) (S : ST), nx cod_X4_changeService cut_X4_changeService K (n + 1) 4 L st S = (O_getf stW 3 3) (nx cod_X4_changeService cut_X4_changeService K n) 4 L st S) ∧
  (∀ (K : Kt ST) (n : Nat) (L : xL) (st : List Value) (S : ST), nx cod_X4_changeService cut_X4_changeService K (n + 1) 7 L st S = (O_iload 1 1) (nx cod_X4_changeService cut_X4_changeService K n) 7 L st S) ∧
  (∀ (K : Kt ST) (n : Nat) (L : xL) (st : List Value) (S : ST), nx cod_X4_changeService cut_X4_changeService K (n + 1) 8 L st S = (O_iload 2 1) (nx cod_X4_changeService cut_X4_changeService K n) 8 L st S) ∧
  (∀ (K : Kt ST) (n : Nat) (L : xL) (st : List Value) (S : ST), nx cod_X4_changeService cut_X4_changeService K (n + 1) 9 L st S = (O_ast stW 1 stW_sa) (nx cod_X4_changeService cut_X4_changeService K n) 9 L st S) ∧
  (∀ (K : Kt ST) (n : Nat) (L : xL) (st : List Value) (S : ST), nx cod_X4_changeService cut_X4_changeService K (n + 1) 10 L st S = (O_iload 2 1) (nx cod_X4_changeService cut_X4_changeService K n) 10 L st S) ∧
  (∀ (K : Kt ST) (n : Nat) (L : xL) (st : List Value) (S : ST), nx cod_X4_changeService cut_X4_changeService K (n + 1) 11 L st S = (O_if_ne 26) (nx cod_X4_changeService cut_X4_changeService K n) 11 L st S) ∧
  (∀ (K : Kt ST) (n : Nat) (L : xL) (st : List Value) (S : ST), nx cod_X4_changeService cut_X4_changeService K (n + 1) 14 L st S = (O_aload 0 1) (nx cod_X4_changeService cut_X4_changeService K n) 14 L st S) ∧
  (∀ (K : Kt ST) (n : Nat) (L : xL) (st : List Value) (S : ST), nx cod_X4_changeService cut_X4_changeService K (n + 1) 15 L st S = (O_iload 1 1) (nx cod_X4_changeService cut_X4_changeService K n) 15 L st S) ∧
  (∀ (K : Kt ST) (n : Nat) (L : xL) (st : List Value) (S : ST), nx cod_X4_changeService cut_X4_changeService K (n + 1) 16 L st S = (O_callV 1 0 (fun S => S) (fun _ S' => S') sp_X4_stop) (nx cod_X4_changeService cut_X4_changeService K n) 16 L st S) ∧
  (∀ (K : Kt ST) (n : Nat) (L : xL) (st : List Value) (S : ST), nx cod_X4_changeService cut_X4_changeService K (n + 1) 19 L st S = (O_if_eq 26) (nx cod_X4_changeService cut_X4_changeService K n) 19 L st S) ∧
  (∀ (K : Kt ST) (n : Nat) (L : xL) (st : List Value) (S : ST), nx cod_X4_changeService cut_X4_changeService K (n + 1) 22 L st S = (O_int 1 1) (nx cod_X4_changeService cut_X4_changeService K n) 22 L st S) ∧
  (∀ (K : Kt ST) (n : Nat) (L : xL) (st : List Value) (S : ST), nx cod_X4_changeService cut_X4_changeService K (n + 1) 23 L st S = (O_goto 27) (nx cod_X4_changeService cut_X4_changeService K n) 23 L st S) ∧
  (∀ (K : Kt ST) (n : Nat) (L : xL) (st : List Value) (S : ST), nx cod_X4_changeService cut_X4_changeService K (n + 1) 26 L st S = (O_int 0 1) (nx cod_X4_changeService cut_X4_changeService K n) 26 L st S) ∧
  (∀ (K : Kt ST) (n : Nat) (L : xL) (st : List Value) (S : ST), nx cod_X4_changeService cut_X4_changeService K (n + 1) 27 L st S = (O_zret) (nx cod_X4_changeService cut_X4_changeService K n) 27 L st S) ∧
  (∀ (K : Kt ST) (n : Nat) (L : xL) (st : List Value) (S : ST), nx cod_X4_changeService cut_X4_changeService K (n + 1) 100000 L st S = K 100000 L st S) := by
  repeat' apply And.intro
  all_goals (intros; rfl)
set_option maxRecDepth 100000 in
theorem mk_X4_changeService {P P' : ST} {r : Option Value} {p0 : Int32} {p1 : Int32} (body : ∀ E : En, CodOk E stW cod_X4_changeService → Gd E stW 100000 [] r.toList P' → Gd E stW 0 [some (.ref 0), some (.int p0), some (.int p1)] [] P) : Con yX4_changeService cX4_changeService 3 (some .boolean) 3 stW [.ref 0, .int p0, .int p1] P r P' :=
  Con.of (by decide) rfl rfl (Nat.le_of_ble_eq_true rfl) (fun E F G hr => body E (okc_X4_changeService F G) hr)
theorem con_X4_changeService (S : ST) (p : Int32) (is : Int32) (hp : S.P.ok ∧ vp_in p 6 ∧ b01 is) : Con yX4_changeService cX4_changeService 3 (some .boolean) 3 stW [.ref 0, .int p, .int is] S (some (.int (bI (decide (is = 0) && S.P.runs p)))) (S.change p is) := by
  refine mk_X4_changeService (fun E C hr => ?_)
  have hb := b01_fits hp.2.2
  have hr2 : (S.P.sInService (upd S.P.inService p.toNatClampNeg is)).runs p = S.P.runs p := rfl
  have hv := hp.2.1
  (refine nx_ok C (cuts := cut_X4_changeService) 1000 _ _ _ _ ?_; simp only [w_X4_changeService, ops_eq, xst_eq, call_eq, oK_eq, Option.toList_some, Option.toList_none, List.cons_append, List.nil_append, List.length_cons, List.length_nil, true_and, and_true, Nat.reduceAdd, stW_F, stW_A, stW_S, stW_P, ST_id, ST_gs, PT_gs, ZT_gs, NT_gs, ET_gs, se_X4_stop, v8_eq, bI_eq, PT_ok, hb, hr2])
  ((repeat' (with_reducible first | apply And.intro | intro _)) <;> simp_all [ST.change, ST.chg, bI, ST_id, ST_gs, PT_gs, ZT_gs, NT_gs, ET_gs])
def sp_X4_changeService : Sp ST := fun av S K => match av with
  | [.ref 0, .int p, .int is] => (S.P.ok ∧ vp_in p 6 ∧ b01 is) ∧ K (some (.int (bI (decide (is = 0) && S.P.runs p)))) (S.change p is)
  | _ => False
theorem se_X4_changeService (p : Int32) (is : Int32) (S : ST) (K : Option Value → ST → Prop) : sp_X4_changeService [.ref 0, .int p, .int is] S K = ((S.P.ok ∧ vp_in p 6 ∧ b01 is) ∧ K (some (.int (bI (decide (is = 0) && S.P.runs p)))) (S.change p is)) := rfl
theorem spok_X4_changeService : SpOk yX4_changeService cX4_changeService 3 (some .boolean) 3 stW sp_X4_changeService := by
  intro av S K h
  unfold sp_X4_changeService at h
  split at h
  · rename_i p is; exact ⟨some (.int (bI (decide (is = 0) && S.P.runs p))), S.change p is, trivial, con_X4_changeService S p is h.1, h.2⟩
  · exact h.elim
theorem flX4_99 : fldOk RX4 99 4 14 = true := by decide +kernel
theorem flX4_102 : fldOk RX4 102 4 15 = true := by decide +kernel
theorem flX4_105 : fldOk RX4 105 4 16 = true := by decide +kernel
def cod_X4_beginMinutesAnew : List (Nat × Op ST) := [(0, O_aload 0 1), (1, O_int 0 1), (2, O_puti stW_p4_14), (5, O_aload 0 1), (6, O_int 0 1), (7, O_puti stW_p4_15), (10, O_aload 0 1), (11, O_int 0 1), (12, O_puti stW_p4_16), (15, O_vret)]
abbrev cut_X4_beginMinutesAnew : List Nat := []
set_option maxRecDepth 100000 in
theorem okc_X4_beginMinutesAnew {E : En} (F : Fx E RX4 cX4_beginMinutesAnew 1 0) (G : Fr E none) : CodOk E stW cod_X4_beginMinutesAnew := by
  unfold CodOk cod_X4_beginMinutesAnew
  refine List.forall_mem_cons.mpr ⟨ok_aload_n F dX4_beginMinutesAnew_0 rfl (by decide), ?_⟩
  refine List.forall_mem_cons.mpr ⟨ok_iconst F dX4_beginMinutesAnew_1 (by decide) (by decide), ?_⟩
  refine List.forall_mem_cons.mpr ⟨ok_puti F stW_p4_14_ok (fun _ _ _ h => by cases h; rfl) rfl flX4_99 dX4_beginMinutesAnew_2 (by decide), ?_⟩
  refine List.forall_mem_cons.mpr ⟨ok_aload_n F dX4_beginMinutesAnew_5 rfl (by decide), ?_⟩
  refine List.forall_mem_cons.mpr ⟨ok_iconst F dX4_beginMinutesAnew_6 (by decide) (by decide), ?_⟩
  refine List.forall_mem_cons.mpr ⟨ok_puti F stW_p4_15_ok (fun _ _ _ h => by cases h; rfl) rfl flX4_102 dX4_beginMinutesAnew_7 (by decide), ?_⟩
  refine List.forall_mem_cons.mpr ⟨ok_aload_n F dX4_beginMinutesAnew_10 rfl (by decide), ?_⟩
  refine List.forall_mem_cons.mpr ⟨ok_iconst F dX4_beginMinutesAnew_11 (by decide) (by decide), ?_⟩
  refine List.forall_mem_cons.mpr ⟨ok_puti F stW_p4_16_ok (fun _ _ _ h => by cases h; rfl) rfl flX4_105 dX4_beginMinutesAnew_12 (by decide), ?_⟩
  refine List.forall_mem_cons.mpr ⟨ok_vret F G dX4_beginMinutesAnew_15 (by decide), ?_⟩
  exact fun _ h => absurd h List.not_mem_nil
set_option maxRecDepth 100000 in
theorem w_X4_beginMinutesAnew : (∀ (K : Kt ST) (n : Nat) (L : xL) (st : List Value) (S : ST), nx cod_X4_beginMinutesAnew cut_X4_beginMinutesAnew K (n + 1) 0 L st S = (O_aload 0 1) (nx cod_X4_beginMinutesAnew cut_X4_beginMinutesAnew K n) 0 L st S) ∧
  (∀ (K : Kt ST) (n : Nat) (L : xL) (st : List Value) (S : ST), nx cod_X4_beginMinutesAnew cut_X4_beginMinutesAnew K (n + 1) 1 L st S = (O_int 0 1) (nx cod_X4_beginMinutesAnew cut_X4_beginMinutesAnew K n) 1 L st S) ∧
  (∀ (K : Kt ST) (n : Nat) (L : xL) (st : List Value) (S : ST), nx cod_X4_beginMinutesAnew cut_X4_beginMinutesAnew K (n + 1) 2 L st S = (O_puti stW_p4_14) (nx cod_X4_beginMinutesAnew cut_X4_beginMinutesAnew K n) 2 L st S) ∧
  (∀ (K : Kt ST) (n : Nat) (L : xL) (st : List Value) (S : ST), nx cod_X4_beginMinutesAnew cut_X4_beginMinutesAnew K (n + 1) 5 L st S = (O_aload 0 1) (nx cod_X4_beginMinutesAnew cut_X4_beginMinutesAnew K n) 5 L st S) ∧
  (∀ (K : Kt ST) (n : Nat) (L : xL) (st : List Value) (S : ST), nx cod_X4_beginMinutesAnew cut_X4_beginMinutesAnew K (n + 1) 6 L st S = (O_int 0 1) (nx cod_X4_beginMinutesAnew cut_X4_beginMinutesAnew K n) 6 L st S) ∧
  (∀ (K : Kt ST) (n : Nat) (L : xL) (st : List Value) (S : ST), nx cod_X4_beginMinutesAnew cut_X4_beginMinutesAnew K (n + 1) 7 L st S = (O_puti stW_p4_15) (nx cod_X4_beginMinutesAnew cut_X4_beginMinutesAnew K n) 7 L st S) ∧
  (∀ (K : Kt ST) (n : Nat) (L : xL) (st : List Value) (S : ST), nx cod_X4_beginMinutesAnew cut_X4_beginMinutesAnew K (n + 1) 10 L st S = (O_aload 0 1) (nx cod_X4_beginMinutesAnew cut_X4_beginMinutesAnew K n) 10 L st S) ∧
  (∀ (K : Kt ST) (n : Nat) (L : xL) (st : List Value) (S : ST), nx cod_X4_beginMinutesAnew cut_X4_beginMinutesAnew K (n + 1) 11 L st S = (O_int 0 1) (nx cod_X4_beginMinutesAnew cut_X4_beginMinutesAnew K n) 11 L st S) ∧
  (∀ (K : Kt ST) (n : Nat) (L : xL) (st : List Value) (S : ST), nx cod_X4_beginMinutesAnew cut_X4_beginMinutesAnew K (n + 1) 12 L st S = (O_puti stW_p4_16) (nx cod_X4_beginMinutesAnew cut_X4_beginMinutesAnew K n) 12 L st S) ∧
  (∀ (K : Kt ST) (n : Nat) (L : xL) (st : List Value) (S : ST), nx cod_X4_beginMinutesAnew cut_X4_beginMinutesAnew K (n + 1) 15 L st S = (O_vret) (nx cod_X4_beginMinutesAnew cut_X4_beginMinutesAnew K n) 15 L st S) ∧
  (∀ (K : Kt ST) (n : Nat) (L : xL) (st : List Value) (S : ST), nx cod_X4_beginMinutesAnew cut_X4_beginMinutesAnew K (n + 1) 100000 L st S = K 100000 L st S) := by
  repeat' apply And.intro
  all_goals (intros; rfl)
set_option maxRecDepth 100000 in
theorem mk_X4_beginMinutesAnew {P P' : ST} {r : Option Value}  (body : ∀ E : En, CodOk E stW cod_X4_beginMinutesAnew → Gd E stW 100000 [] r.toList P' → Gd E stW 0 [some (.ref 0)] [] P) : Con yX4_beginMinutesAnew cX4_beginMinutesAnew 1 none 0 stW [.ref 0] P r P' :=
  Con.of (by decide) rfl rfl (Nat.le_of_ble_eq_true rfl) (fun E F G hr => body E (okc_X4_beginMinutesAnew F G) hr)
theorem con_X4_beginMinutesAnew (S : ST)  : Con yX4_beginMinutesAnew cX4_beginMinutesAnew 1 none 0 stW [.ref 0] S (none) (((S.sToStart 0).sToStop 0).sToSleep 0) := by
  refine mk_X4_beginMinutesAnew (fun E C hr => ?_)
  (refine nx_ok C (cuts := cut_X4_beginMinutesAnew) 1000 _ _ _ _ ?_; simp only [w_X4_beginMinutesAnew, ops_eq, xst_eq, call_eq, oK_eq, Option.toList_some, Option.toList_none, List.cons_append, List.nil_append, List.length_cons, List.length_nil, true_and, and_true, Nat.reduceAdd, stW_F, stW_A, stW_S, stW_P, ST_id, ST_gs, PT_gs, ZT_gs, NT_gs, ET_gs])
  ((repeat' (with_reducible first | apply And.intro | intro _)) <;> simp_all [ST_id, ST_gs, PT_gs, ZT_gs, NT_gs, ET_gs])
def sp_X4_beginMinutesAnew : Sp ST := fun av S K => match av with
  | [.ref 0] => K (none) (((S.sToStart 0).sToStop 0).sToSleep 0)
  | _ => False
theorem se_X4_beginMinutesAnew  (S : ST) (K : Option Value → ST → Prop) : sp_X4_beginMinutesAnew [.ref 0] S K = (K (none) (((S.sToStart 0).sToStop 0).sToSleep 0)) := rfl
theorem spok_X4_beginMinutesAnew : SpOk yX4_beginMinutesAnew cX4_beginMinutesAnew 1 none 0 stW sp_X4_beginMinutesAnew := by
  intro av S K h
  unfold sp_X4_beginMinutesAnew at h
  split at h
  · exact ⟨none, ((S.sToStart 0).sToStop 0).sToSleep 0, trivial, con_X4_beginMinutesAnew S , h⟩
  · exact h.elim
def ST.adjust (S : ST) : ST := if S.P.has S.P.vrb = false then S else S.sP (S.P.sSpeeds (upd S.P.speeds S.P.vrb.toNatClampNeg (hold (S.P.speeds S.P.vrb.toNatClampNeg + hold ((S.settings 0 - S.pressure) * S.settings 2 / 100) (-S.settings 3) (S.settings 3)) (S.settings 4) 1000)))
theorem flX4_205 : fldOk RX4 205 3 4 = true := by decide +kernel
theorem flX4_208 : fldOk RX4 208 3 9 = true := by decide +kernel
def cod_X4_adjustSpeed : List (Nat × Op ST) := [(0, O_aload 0 1), (1, O_getf stW 4 1), (4, O_callV 0 2 (fun S : ST => S.P) (fun S u => S.sP u) sp_X3_hasVariable), (7, O_if_ne 11), (10, O_vret), (11, O_aload 0 1), (12, O_getf stW 4 0), (15, O_int 0 1), (16, O_ald stW 0), (17, O_aload 0 1), (18, O_getf stW 4 6), (21, O_isub), (22, O_aload 0 1), (23, O_getf stW 4 0), (26, O_int 2 1), (27, O_ald stW 0), (28, O_imul), (29, O_int 100 2), (31, O_idiv), (32, O_istore 1 1), (33, O_iload 1 1), (34, O_aload 0 1), (35, O_getf stW 4 0), (38, O_int 3 1), (39, O_ald stW 0), (40, O_ineg), (41, O_aload 0 1), (42, O_getf stW 4 0), (45, O_int 3 1), (46, O_ald stW 0), (47, O_callS 3 sp_X6_hold), (50, O_istore 2 1), (51, O_aload 0 1), (52, O_getf stW 4 1), (55, O_getf stW 3 4), (58, O_aload 0 1), (59, O_getf stW 4 1), (62, O_getf stW 3 9), (65, O_ald stW 0), (66, O_iload 2 1), (67, O_iadd), (68, O_istore 3 1), (69, O_aload 0 1), (70, O_getf stW 4 1), (73, O_getf stW 3 4), (76, O_aload 0 1), (77, O_getf stW 4 1), (80, O_getf stW 3 9), (83, O_iload 3 1), (84, O_aload 0 1), (85, O_getf stW 4 0), (88, O_int 4 1), (89, O_ald stW 0), (90, O_int 1000 3), (93, O_callS 3 sp_X6_hold), (96, O_ast stW 0 stW_sa), (97, O_vret)]
abbrev cut_X4_adjustSpeed : List Nat := []
set_option maxRecDepth 100000 in
theorem okc_X4_adjustSpeed {E : En} (F : Fx E RX4 cX4_adjustSpeed 4 2) (G : Fr E none) : CodOk E stW cod_X4_adjustSpeed := by
  unfold CodOk cod_X4_adjustSpeed
  refine List.forall_mem_cons.mpr ⟨ok_aload_n F dX4_adjustSpeed_0 rfl (by decide), ?_⟩
  refine List.forall_mem_cons.mpr ⟨ok_getf F flX4_26 dX4_adjustSpeed_1 (by decide), ?_⟩
  refine List.forall_mem_cons.mpr ⟨ok_callV F spok_X3_hasVariable ln_st_P rcv_pW (by decide +kernel) (by decide) dX4_adjustSpeed_4 (by decide), ?_⟩
  refine List.forall_mem_cons.mpr ⟨ok_if_ne F dX4_adjustSpeed_7 (by decide) (by decide) (by decide), ?_⟩
  refine List.forall_mem_cons.mpr ⟨ok_vret F G dX4_adjustSpeed_10 (by decide), ?_⟩
  refine List.forall_mem_cons.mpr ⟨ok_aload_n F dX4_adjustSpeed_11 rfl (by decide), ?_⟩
  refine List.forall_mem_cons.mpr ⟨ok_getf F flX4_18 dX4_adjustSpeed_12 (by decide), ?_⟩
  refine List.forall_mem_cons.mpr ⟨ok_iconst F dX4_adjustSpeed_15 (by decide) (by decide), ?_⟩
  refine List.forall_mem_cons.mpr ⟨ok_iald F dX4_adjustSpeed_16 (by decide), ?_⟩
  refine List.forall_mem_cons.mpr ⟨ok_aload_n F dX4_adjustSpeed_17 rfl (by decide), ?_⟩
  refine List.forall_mem_cons.mpr ⟨ok_getf F flX4_77 dX4_adjustSpeed_18 (by decide), ?_⟩
  refine List.forall_mem_cons.mpr ⟨ok_isub F dX4_adjustSpeed_21 (by decide), ?_⟩
  refine List.forall_mem_cons.mpr ⟨ok_aload_n F dX4_adjustSpeed_22 rfl (by decide), ?_⟩
  refine List.forall_mem_cons.mpr ⟨ok_getf F flX4_18 dX4_adjustSpeed_23 (by decide), ?_⟩
  refine List.forall_mem_cons.mpr ⟨ok_iconst F dX4_adjustSpeed_26 (by decide) (by decide), ?_⟩
  refine List.forall_mem_cons.mpr ⟨ok_iald F dX4_adjustSpeed_27 (by decide), ?_⟩
  refine List.forall_mem_cons.mpr ⟨ok_imul F dX4_adjustSpeed_28 (by decide), ?_⟩
  refine List.forall_mem_cons.mpr ⟨ok_bipush F dX4_adjustSpeed_29 (by decide) (by decide), ?_⟩
  refine List.forall_mem_cons.mpr ⟨ok_idiv F dX4_adjustSpeed_31 (by decide), ?_⟩
  refine List.forall_mem_cons.mpr ⟨ok_istore_n F dX4_adjustSpeed_32 rfl (by decide) (by decide), ?_⟩
  refine List.forall_mem_cons.mpr ⟨ok_iload_n F dX4_adjustSpeed_33 rfl (by decide), ?_⟩
  refine List.forall_mem_cons.mpr ⟨ok_aload_n F dX4_adjustSpeed_34 rfl (by decide), ?_⟩
  refine List.forall_mem_cons.mpr ⟨ok_getf F flX4_18 dX4_adjustSpeed_35 (by decide), ?_⟩
  refine List.forall_mem_cons.mpr ⟨ok_iconst F dX4_adjustSpeed_38 (by decide) (by decide), ?_⟩
  refine List.forall_mem_cons.mpr ⟨ok_iald F dX4_adjustSpeed_39 (by decide), ?_⟩
  refine List.forall_mem_cons.mpr ⟨ok_ineg F dX4_adjustSpeed_40 (by decide), ?_⟩
  refine List.forall_mem_cons.mpr ⟨ok_aload_n F dX4_adjustSpeed_41 rfl (by decide), ?_⟩
  refine List.forall_mem_cons.mpr ⟨ok_getf F flX4_18 dX4_adjustSpeed_42 (by decide), ?_⟩
  refine List.forall_mem_cons.mpr ⟨ok_iconst F dX4_adjustSpeed_45 (by decide) (by decide), ?_⟩
  refine List.forall_mem_cons.mpr ⟨ok_iald F dX4_adjustSpeed_46 (by decide), ?_⟩
  refine List.forall_mem_cons.mpr ⟨ok_callSN F spok_X6_hold (host := RX6) (by decide +kernel) (by decide) dX4_adjustSpeed_47 (by decide), ?_⟩
  refine List.forall_mem_cons.mpr ⟨ok_istore_n F dX4_adjustSpeed_50 rfl (by decide) (by decide), ?_⟩
  refine List.forall_mem_cons.mpr ⟨ok_aload_n F dX4_adjustSpeed_51 rfl (by decide), ?_⟩
  refine List.forall_mem_cons.mpr ⟨ok_getf F flX4_26 dX4_adjustSpeed_52 (by decide), ?_⟩
  refine List.forall_mem_cons.mpr ⟨ok_getf F flX4_205 dX4_adjustSpeed_55 (by decide), ?_⟩
  refine List.forall_mem_cons.mpr ⟨ok_aload_n F dX4_adjustSpeed_58 rfl (by decide), ?_⟩
  refine List.forall_mem_cons.mpr ⟨ok_getf F flX4_26 dX4_adjustSpeed_59 (by decide), ?_⟩
  refine List.forall_mem_cons.mpr ⟨ok_getf F flX4_208 dX4_adjustSpeed_62 (by decide), ?_⟩
  refine List.forall_mem_cons.mpr ⟨ok_iald F dX4_adjustSpeed_65 (by decide), ?_⟩
  refine List.forall_mem_cons.mpr ⟨ok_iload_n F dX4_adjustSpeed_66 rfl (by decide), ?_⟩
  refine List.forall_mem_cons.mpr ⟨ok_iadd F dX4_adjustSpeed_67 (by decide), ?_⟩
  refine List.forall_mem_cons.mpr ⟨ok_istore_n F dX4_adjustSpeed_68 rfl (by decide) (by decide), ?_⟩
  refine List.forall_mem_cons.mpr ⟨ok_aload_n F dX4_adjustSpeed_69 rfl (by decide), ?_⟩
  refine List.forall_mem_cons.mpr ⟨ok_getf F flX4_26 dX4_adjustSpeed_70 (by decide), ?_⟩
  refine List.forall_mem_cons.mpr ⟨ok_getf F flX4_205 dX4_adjustSpeed_73 (by decide), ?_⟩
  refine List.forall_mem_cons.mpr ⟨ok_aload_n F dX4_adjustSpeed_76 rfl (by decide), ?_⟩
  refine List.forall_mem_cons.mpr ⟨ok_getf F flX4_26 dX4_adjustSpeed_77 (by decide), ?_⟩
  refine List.forall_mem_cons.mpr ⟨ok_getf F flX4_208 dX4_adjustSpeed_80 (by decide), ?_⟩
  refine List.forall_mem_cons.mpr ⟨ok_iload_n F dX4_adjustSpeed_83 rfl (by decide), ?_⟩
  refine List.forall_mem_cons.mpr ⟨ok_aload_n F dX4_adjustSpeed_84 rfl (by decide), ?_⟩
  refine List.forall_mem_cons.mpr ⟨ok_getf F flX4_18 dX4_adjustSpeed_85 (by decide), ?_⟩
  refine List.forall_mem_cons.mpr ⟨ok_iconst F dX4_adjustSpeed_88 (by decide) (by decide), ?_⟩
  refine List.forall_mem_cons.mpr ⟨ok_iald F dX4_adjustSpeed_89 (by decide), ?_⟩
  refine List.forall_mem_cons.mpr ⟨ok_sipush F dX4_adjustSpeed_90 (by decide) (by decide), ?_⟩
  refine List.forall_mem_cons.mpr ⟨ok_callSN F spok_X6_hold (host := RX6) (by decide +kernel) (by decide) dX4_adjustSpeed_93 (by decide), ?_⟩
  refine List.forall_mem_cons.mpr ⟨ok_iast F stW_sar dX4_adjustSpeed_96 (by decide), ?_⟩
  refine List.forall_mem_cons.mpr ⟨ok_vret F G dX4_adjustSpeed_97 (by decide), ?_⟩
  exact fun _ h => absurd h List.not_mem_nil
set_option maxRecDepth 100000 in
theorem w_X4_adjustSpeed : (∀ (K : Kt ST) (n : Nat) (L : xL) (st : List Value) (S : ST), nx cod_X4_adjustSpeed cut_X4_adjustSpeed K (n + 1) 0 L st S = (O_aload 0 1) (nx cod_X4_adjustSpeed cut_X4_adjustSpeed K n) 0 L st S) ∧
  (∀ (K : Kt ST) (n : Nat) (L : xL) (st : List Value) (S : ST), nx cod_X4_adjustSpeed cut_X4_adjustSpeed K (n + 1) 1 L st S = (O_getf stW 4 1) (nx cod_X4_adjustSpeed cut_X4_adjustSpeed K n) 1 L st S) ∧
  (∀ (K : Kt ST) (n : Nat) (L : xL) (st : List Value) (S : ST), nx cod_X4_adjustSpeed cut_X4_adjustSpeed K (n + 1) 4 L st S = (O_callV 0 2 (fun S : ST => S.P) (fun S u => S.sP u) sp_X3_hasVariable) (nx cod_X4_adjustSpeed cut_X4_adjustSpeed K n) 4 L st S) ∧
  (∀ (K : Kt ST) (n : Nat) (L : xL) (st : List Value) (S : ST), nx cod_X4_adjustSpeed cut_X4_adjustSpeed K (n + 1) 7 L st S = (O_if_ne 11) (nx cod_X4_adjustSpeed cut_X4_adjustSpeed K n) 7 L st S) ∧
  (∀ (K : Kt ST) (n : Nat) (L : xL) (st : List Value) (S : ST), nx cod_X4_adjustSpeed cut_X4_adjustSpeed K (n + 1) 10 L st S = (O_vret) (nx cod_X4_adjustSpeed cut_X4_adjustSpeed K n) 10 L st S) ∧
  (∀ (K : Kt ST) (n : Nat) (L : xL) (st : List Value) (S : ST), nx cod_X4_adjustSpeed cut_X4_adjustSpeed K (n + 1) 11 L st S = (O_aload 0 1) (nx cod_X4_adjustSpeed cut_X4_adjustSpeed K n) 11 L st S) ∧
  (∀ (K : Kt ST) (n : Nat) (L : xL) (st : List Value) (S : ST), nx cod_X4_adjustSpeed cut_X4_adjustSpeed K (n + 1) 12 L st S = (O_getf stW 4 0) (nx cod_X4_adjustSpeed cut_X4_adjustSpeed K n) 12 L st S) ∧
  (∀ (K : Kt ST) (n : Nat) (L : xL) (st : List Value) (S : ST), nx cod_X4_adjustSpeed cut_X4_adjustSpeed K (n + 1) 15 L st S = (O_int 0 1) (nx cod_X4_adjustSpeed cut_X4_adjustSpeed K n) 15 L st S) ∧
  (∀ (K : Kt ST) (n : Nat) (L : xL) (st : List Value) (S : ST), nx cod_X4_adjustSpeed cut_X4_adjustSpeed K (n + 1) 16 L st S = (O_ald stW 0) (nx cod_X4_adjustSpeed cut_X4_adjustSpeed K n) 16 L st S) ∧
  (∀ (K : Kt ST) (n : Nat) (L : xL) (st : List Value) (S : ST), nx cod_X4_adjustSpeed cut_X4_adjustSpeed K (n + 1) 17 L st S = (O_aload 0 1) (nx cod_X4_adjustSpeed cut_X4_adjustSpeed K n) 17 L st S) ∧
  (∀ (K : Kt ST) (n : Nat) (L : xL) (st : List Value) (S : ST), nx cod_X4_adjustSpeed cut_X4_adjustSpeed K (n + 1) 18 L st S = (O_getf stW 4 6) (nx cod_X4_adjustSpeed cut_X4_adjustSpeed K n) 18 L st S) ∧
  (∀ (K : Kt ST) (n : Nat) (L : xL) (st : List Value) (S : ST), nx cod_X4_adjustSpeed cut_X4_adjustSpeed K (n + 1) 21 L st S = (O_isub) (nx cod_X4_adjustSpeed cut_X4_adjustSpeed K n) 21 L st S) ∧
  (∀ (K : Kt ST) (n : Nat) (L : xL) (st : List Value) (S : ST), nx cod_X4_adjustSpeed cut_X4_adjustSpeed K (n + 1) 22 L st S = (O_aload 0 1) (nx cod_X4_adjustSpeed cut_X4_adjustSpeed K n) 22 L st S) ∧
  (∀ (K : Kt ST) (n : Nat) (L : xL) (st : List Value) (S : ST), nx cod_X4_adjustSpeed cut_X4_adjustSpeed K (n + 1) 23 L st S = (O_getf stW 4 0) (nx cod_X4_adjustSpeed cut_X4_adjustSpeed K n) 23 L st S) ∧
  (∀ (K : Kt ST) (n : Nat) (L : xL) (st : List Value) (S : ST), nx cod_X4_adjustSpeed cut_X4_adjustSpeed K (n + 1) 26 L st S = (O_int 2 1) (nx cod_X4_adjustSpeed cut_X4_adjustSpeed K n) 26 L st S) ∧
  (∀ (K : Kt ST) (n : Nat) (L : xL) (st : List Value) (S : ST), nx cod_X4_adjustSpeed cut_X4_adjustSpeed K (n + 1) 27 L st S = (O_ald stW 0) (nx cod_X4_adjustSpeed cut_X4_adjustSpeed K n) 27 L st S) ∧
  (∀ (K : Kt ST) (n : Nat) (L : xL) (st : List Value) (S : ST), nx cod_X4_adjustSpeed cut_X4_adjustSpeed K (n + 1) 28 L st S = (O_imul) (nx cod_X4_adjustSpeed cut_X4_adjustSpeed K n) 28 L st S) ∧
  (∀ (K : Kt ST) (n : Nat) (L : xL) (st : List Value) (S : ST), nx cod_X4_adjustSpeed cut_X4_adjustSpeed K (n + 1) 29 L st S = (O_int 100 2) (nx cod_X4_adjustSpeed cut_X4_adjustSpeed K n) 29 L st S) ∧
  (∀ (K : Kt ST) (n : Nat) (L : xL) (st : List Value) (S : ST), nx cod_X4_adjustSpeed cut_X4_adjustSpeed K (n + 1) 31 L st S = (O_idiv) (nx cod_X4_adjustSpeed cut_X4_adjustSpeed K n) 31 L st S) ∧
  (∀ (K : Kt ST) (n : Nat) (L : xL) (st : List Value) (S : ST), nx cod_X4_adjustSpeed cut_X4_adjustSpeed K (n + 1) 32 L st S = (O_istore 1 1) (nx cod_X4_adjustSpeed cut_X4_adjustSpeed K n) 32 L st S) ∧
  (∀ (K : Kt ST) (n : Nat) (L : xL) (st : List Value) (S : ST), nx cod_X4_adjustSpeed cut_X4_adjustSpeed K (n + 1) 33 L st S = (O_iload 1 1) (nx cod_X4_adjustSpeed cut_X4_adjustSpeed K n) 33 L st S) ∧
  (∀ (K : Kt ST) (n : Nat) (L : xL) (st : List Value) (S : ST), nx cod_X4_adjustSpeed cut_X4_adjustSpeed K (n + 1) 34 L st S = (O_aload 0 1) (nx cod_X4_adjustSpeed cut_X4_adjustSpeed K n) 34 L st S) ∧
  (∀ (K : Kt ST) (n : Nat) (L : xL) (st : List Value) (S : ST), nx cod_X4_adjustSpeed cut_X4_adjustSpeed K (n + 1) 35 L st S = (O_getf stW 4 0) (nx cod_X4_adjustSpeed cut_X4_adjustSpeed K n) 35 L st S) ∧
  (∀ (K : Kt ST) (n : Nat) (L : xL) (st : List Value) (S : ST), nx cod_X4_adjustSpeed cut_X4_adjustSpeed K (n + 1) 38 L st S = (O_int 3 1) (nx cod_X4_adjustSpeed cut_X4_adjustSpeed K n) 38 L st S) ∧
  (∀ (K : Kt ST) (n : Nat) (L : xL) (st : List Value) (S : ST), nx cod_X4_adjustSpeed cut_X4_adjustSpeed K (n + 1) 39 L st S = (O_ald stW 0) (nx cod_X4_adjustSpeed cut_X4_adjustSpeed K n) 39 L st S) ∧
  (∀ (K : Kt ST) (n : Nat) (L : xL) (st : List Value) (S : ST), nx cod_X4_adjustSpeed cut_X4_adjustSpeed K (n + 1) 40 L st S = (O_ineg) (nx cod_X4_adjustSpeed cut_X4_adjustSpeed K n) 40 L st S) ∧
  (∀ (K : Kt ST) (n : Nat) (L : xL) (st : List Value) (S : ST), nx cod_X4_adjustSpeed cut_X4_adjustSpeed K (n + 1) 41 L st S = (O_aload 0 1) (nx cod_X4_adjustSpeed cut_X4_adjustSpeed K n) 41 L st S) ∧
  (∀ (K : Kt ST) (n : Nat) (L : xL) (st : List Value) (S : ST), nx cod_X4_adjustSpeed cut_X4_adjustSpeed K (n + 1) 42 L st S = (O_getf stW 4 0) (nx cod_X4_adjustSpeed cut_X4_adjustSpeed K n) 42 L st S) ∧
  (∀ (K : Kt ST) (n : Nat) (L : xL) (st : List Value) (S : ST), nx cod_X4_adjustSpeed cut_X4_adjustSpeed K (n + 1) 45 L st S = (O_int 3 1) (nx cod_X4_adjustSpeed cut_X4_adjustSpeed K n) 45 L st S) ∧
  (∀ (K : Kt ST) (n : Nat) (L : xL) (st : List Value) (S : ST), nx cod_X4_adjustSpeed cut_X4_adjustSpeed K (n + 1) 46 L st S = (O_ald stW 0) (nx cod_X4_adjustSpeed cut_X4_adjustSpeed K n) 46 L st S) ∧
  (∀ (K : Kt ST) (n : Nat) (L : xL) (st : List Value) (S : ST), nx cod_X4_adjustSpeed cut_X4_adjustSpeed K (n + 1) 47 L st S = (O_callS 3 sp_X6_hold) (nx cod_X4_adjustSpeed cut_X4_adjustSpeed K n) 47 L st S) ∧
  (∀ (K : Kt ST) (n : Nat) (L : xL) (st : List Value) (S : ST), nx cod_X4_adjustSpeed cut_X4_adjustSpeed K (n + 1) 50 L st S = (O_istore 2 1) (nx cod_X4_adjustSpeed cut_X4_adjustSpeed K n) 50 L st S) ∧
  (∀ (K : Kt ST) (n : Nat) (L : xL) (st : List Value) (S : ST), nx cod_X4_adjustSpeed cut_X4_adjustSpeed K (n + 1) 51 L st S = (O_aload 0 1) (nx cod_X4_adjustSpeed cut_X4_adjustSpeed K n) 51 L st S) ∧
  (∀ (K : Kt ST) (n : Nat) (L : xL) (st : List Value) (S : ST), nx cod_X4_adjustSpeed cut_X4_adjustSpeed K (n + 1) 52 L st S = (O_getf stW 4 1) (nx cod_X4_adjustSpeed cut_X4_adjustSpeed K n) 52 L st S) ∧
  (∀ (K : Kt ST) (n : Nat) (L : xL) (st : List Value) (S : ST), nx cod_X4_adjustSpeed cut_X4_adjustSpeed K (n + 1) 55 L st S = (O_getf stW 3 4) (nx cod_X4_adjustSpeed cut_X4_adjustSpeed K n) 55 L st S) ∧
  (∀ (K : Kt ST) (n : Nat) (L : xL) (st : List Value) (S : ST), nx cod_X4_adjustSpeed cut_X4_adjustSpeed K (n + 1) 58 L st S = (O_aload 0 1) (nx cod_X4_adjustSpeed cut_X4_adjustSpeed K n) 58 L st S) ∧
  (∀ (K : Kt ST) (n : Nat) (L : xL) (st : List Value) (S : ST), nx cod_X4_adjustSpeed cut_X4_adjustSpeed K (n + 1) 59 L st S = (O_getf stW 4 1) (nx cod_X4_adjustSpeed cut_X4_adjustSpeed K n) 59 L st S) ∧
  (∀ (K : Kt ST) (n : Nat) (L : xL) (st : List Value) (S : ST), nx cod_X4_adjustSpeed cut_X4_adjustSpeed K (n + 1) 62 L st S = (O_getf stW 3 9) (nx cod_X4_adjustSpeed cut_X4_adjustSpeed K n) 62 L st S) ∧
  (∀ (K : Kt ST) (n : Nat) (L : xL) (st : List Value) (S : ST), nx cod_X4_adjustSpeed cut_X4_adjustSpeed K (n + 1) 65 L st S = (O_ald stW 0) (nx cod_X4_adjustSpeed cut_X4_adjustSpeed K n) 65 L st S) ∧
  (∀ (K : Kt ST) (n : Nat) (L : xL) (st : List Value) (S : ST), nx cod_X4_adjustSpeed cut_X4_adjustSpeed K (n + 1) 66 L st S = (O_iload 2 1) (nx cod_X4_adjustSpeed cut_X4_adjustSpeed K n) 66 L st S) ∧
  (∀ (K : Kt ST) (n : Nat) (L : xL) (st : List Value) (S : ST), nx cod_X4_adjustSpeed cut_X4_adjustSpeed K (n + 1) 67 L st S = (O_iadd) (nx cod_X4_adjustSpeed cut_X4_adjustSpeed K n) 67 L st S) ∧
  (∀ (K : Kt ST) (n : Nat) (L : xL) (st : List Value) (S : ST), nx cod_X4_adjustSpeed cut_X4_adjustSpeed K (n + 1) 68 L st S = (O_istore 3 1) (nx cod_X4_adjustSpeed cut_X4_adjustSpeed K n) 68 L st S) ∧
  (∀ (K : Kt ST) (n : Nat) (L : xL) (st : List Value) (S : ST), nx cod_X4_adjustSpeed cut_X4_adjustSpeed K (n + 1) 69 L st S = (O_aload 0 1) (nx cod_X4_adjustSpeed cut_X4_adjustSpeed K n) 69 L st S) ∧
  (∀ (K : Kt ST) (n : Nat) (L : xL) (st : List Value) (S : ST), nx cod_X4_adjustSpeed cut_X4_adjustSpeed K (n + 1) 70 L st S = (O_getf stW 4 1) (nx cod_X4_adjustSpeed cut_X4_adjustSpeed K n) 70 L st S) ∧
  (∀ (K : Kt ST) (n : Nat) (L : xL) (st : List Value) (S : ST), nx cod_X4_adjustSpeed cut_X4_adjustSpeed K (n + 1) 73 L st S = (O_getf stW 3 4) (nx cod_X4_adjustSpeed cut_X4_adjustSpeed K n) 73 L st S) ∧
  (∀ (K : Kt ST) (n : Nat) (L : xL) (st : List Value) (S : ST), nx cod_X4_adjustSpeed cut_X4_adjustSpeed K (n + 1) 76 L st S = (O_aload 0 1) (nx cod_X4_adjustSpeed cut_X4_adjustSpeed K n) 76 L st S) ∧
  (∀ (K : Kt ST) (n : Nat) (L : xL) (st : List Value) (S : ST), nx cod_X4_adjustSpeed cut_X4_adjustSpeed K (n + 1) 77 L st S = (O_getf stW 4 1) (nx cod_X4_adjustSpeed cut_X4_adjustSpeed K n) 77 L st S) ∧
  (∀ (K : Kt ST) (n : Nat) (L : xL) (st : List Value) (S : ST), nx cod_X4_adjustSpeed cut_X4_adjustSpeed K (n + 1) 80 L st S = (O_getf stW 3 9) (nx cod_X4_adjustSpeed cut_X4_adjustSpeed K n) 80 L st S) ∧
  (∀ (K : Kt ST) (n : Nat) (L : xL) (st : List Value) (S : ST), nx cod_X4_adjustSpeed cut_X4_adjustSpeed K (n + 1) 83 L st S = (O_iload 3 1) (nx cod_X4_adjustSpeed cut_X4_adjustSpeed K n) 83 L st S) ∧
  (∀ (K : Kt ST) (n : Nat) (L : xL) (st : List Value) (S : ST), nx cod_X4_adjustSpeed cut_X4_adjustSpeed K (n + 1) 84 L st S = (O_aload 0 1) (nx cod_X4_adjustSpeed cut_X4_adjustSpeed K n) 84 L st S) ∧
  (∀ (K : Kt ST) (n : Nat) (L : xL) (st : List Value) (S : ST), nx cod_X4_adjustSpeed cut_X4_adjustSpeed K (n + 1) 85 L st S = (O_getf stW 4 0) (nx cod_X4_adjustSpeed cut_X4_adjustSpeed K n) 85 L st S) ∧
  (∀ (K : Kt ST) (n : Nat) (L : xL) (st : List Value) (S : ST), nx cod_X4_adjustSpeed cut_X4_adjustSpeed K (n + 1) 88 L st S = (O_int 4 1) (nx cod_X4_adjustSpeed cut_X4_adjustSpeed K n) 88 L st S) ∧
  (∀ (K : Kt ST) (n : Nat) (L : xL) (st : List Value) (S : ST), nx cod_X4_adjustSpeed cut_X4_adjustSpeed K (n + 1) 89 L st S = (O_ald stW 0) (nx cod_X4_adjustSpeed cut_X4_adjustSpeed K n) 89 L st S) ∧
  (∀ (K : Kt ST) (n : Nat) (L : xL) (st : List Value) (S : ST), nx cod_X4_adjustSpeed cut_X4_adjustSpeed K (n + 1) 90 L st S = (O_int 1000 3) (nx cod_X4_adjustSpeed cut_X4_adjustSpeed K n) 90 L st S) ∧
  (∀ (K : Kt ST) (n : Nat) (L : xL) (st : List Value) (S : ST), nx cod_X4_adjustSpeed cut_X4_adjustSpeed K (n + 1) 93 L st S = (O_callS 3 sp_X6_hold) (nx cod_X4_adjustSpeed cut_X4_adjustSpeed K n) 93 L st S) ∧
  (∀ (K : Kt ST) (n : Nat) (L : xL) (st : List Value) (S : ST), nx cod_X4_adjustSpeed cut_X4_adjustSpeed K (n + 1) 96 L st S = (O_ast stW 0 stW_sa) (nx cod_X4_adjustSpeed cut_X4_adjustSpeed K n) 96 L st S) ∧
  (∀ (K : Kt ST) (n : Nat) (L : xL) (st : List Value) (S : ST), nx cod_X4_adjustSpeed cut_X4_adjustSpeed K (n + 1) 97 L st S = (O_vret) (nx cod_X4_adjustSpeed cut_X4_adjustSpeed K n) 97 L st S) ∧
  (∀ (K : Kt ST) (n : Nat) (L : xL) (st : List Value) (S : ST), nx cod_X4_adjustSpeed cut_X4_adjustSpeed K (n + 1) 100000 L st S = K 100000 L st S) := by
  repeat' apply And.intro
  all_goals (intros; rfl)
set_option maxRecDepth 100000 in
theorem mk_X4_adjustSpeed {P P' : ST} {r : Option Value}  (body : ∀ E : En, CodOk E stW cod_X4_adjustSpeed → Gd E stW 100000 [] r.toList P' → Gd E stW 0 [some (.ref 0), none, none, none] [] P) : Con yX4_adjustSpeed cX4_adjustSpeed 4 none 2 stW [.ref 0] P r P' :=
  Con.of (by decide) rfl rfl (Nat.le_of_ble_eq_true rfl) (fun E F G hr => body E (okc_X4_adjustSpeed F G) hr)
theorem con_X4_adjustSpeed (S : ST)  (hp : S.P.ok) : Con yX4_adjustSpeed cX4_adjustSpeed 4 none 2 stW [.ref 0] S (none) (S.adjust) := by
  refine mk_X4_adjustSpeed (fun E C hr => ?_)
  have hv := PT.has_in (p := S.P.vrb) hp
  (refine nx_ok C (cuts := cut_X4_adjustSpeed) 1000 _ _ _ _ ?_; simp only [w_X4_adjustSpeed, ops_eq, xst_eq, call_eq, oK_eq, Option.toList_some, Option.toList_none, List.cons_append, List.nil_append, List.length_cons, List.length_nil, true_and, and_true, Nat.reduceAdd, stW_F, stW_A, stW_S, stW_P, ST_id, ST_gs, PT_gs, ZT_gs, NT_gs, ET_gs, se_X3_hasVariable, se_X6_hold, v19_eq, cl_eq, dv_eq, bI_eq, show ∀ x, xnar 0 x = x from fun _ => rfl])
  ((repeat' (with_reducible first | apply And.intro | intro _)) <;> simp_all [ST.adjust, ST_id, ST_gs, PT_gs, ZT_gs, NT_gs, ET_gs])
def sp_X4_adjustSpeed : Sp ST := fun av S K => match av with
  | [.ref 0] => (S.P.ok) ∧ K (none) (S.adjust)
  | _ => False
theorem se_X4_adjustSpeed  (S : ST) (K : Option Value → ST → Prop) : sp_X4_adjustSpeed [.ref 0] S K = ((S.P.ok) ∧ K (none) (S.adjust)) := rfl
theorem spok_X4_adjustSpeed : SpOk yX4_adjustSpeed cX4_adjustSpeed 4 none 2 stW sp_X4_adjustSpeed := by
  intro av S K h
  unfold sp_X4_adjustSpeed at h
  split at h
  · exact ⟨none, S.adjust, trivial, con_X4_adjustSpeed S  h.1, h.2⟩
  · exact h.elim
def ST.wake (S : ST) : ST := if 0 < S.P.running ∨ ¬ S.pressure < S.settings 0 - S.settings 9 ∨ oI (S.P.inOrd 0) = -1 then S else (S.start (oI (S.P.inOrd 0)) (S.settings 4)).event 3 (-1)
def cod_X4_wake : List (Nat × Op ST) := [(0, O_aload 0 1), (1, O_getf stW 4 1), (4, O_callV 0 2 (fun S : ST => S.P) (fun S u => S.sP u) sp_X3_running), (7, O_if_gt 31), (10, O_aload 0 1), (11, O_getf stW 4 6), (14, O_aload 0 1), (15, O_getf stW 4 0), (18, O_int 0 1), (19, O_ald stW 0), (20, O_aload 0 1), (21, O_getf stW 4 0), (24, O_int 9 2), (26, O_ald stW 0), (27, O_isub), (28, O_icmp_lt 32), (31, O_vret), (32, O_aload 0 1), (33, O_getf stW 4 1), (36, O_int 0 1), (37, O_callV 1 2 (fun S : ST => S.P) (fun S u => S.sP u) sp_X3_readyInOrder), (40, O_istore 1 1), (41, O_iload 1 1), (42, O_int (-1) 1), (43, O_icmp_eq 70), (46, O_aload 0 1), (47, O_iload 1 1), (48, O_aload 0 1), (49, O_getf stW 4 0), (52, O_int 4 1), (53, O_ald stW 0), (54, O_callV 2 0 (fun S => S) (fun _ S' => S') sp_X4_start), (57, O_aload 0 1), (58, O_getf stW 4 4), (61, O_int 3 1), (62, O_aload 0 1), (63, O_getf stW 4 5), (66, O_int (-1) 1), (67, O_callV 3 19 (fun S : ST => S.E) (fun S u => S.sE u) sp_X0_add), (70, O_vret)]
abbrev cut_X4_wake : List Nat := []
set_option maxRecDepth 100000 in
theorem okc_X4_wake {E : En} (F : Fx E RX4 cX4_wake 2 3) (G : Fr E none) : CodOk E stW cod_X4_wake := by
  unfold CodOk cod_X4_wake
  refine List.forall_mem_cons.mpr ⟨ok_aload_n F dX4_wake_0 rfl (by decide), ?_⟩
  refine List.forall_mem_cons.mpr ⟨ok_getf F flX4_26 dX4_wake_1 (by decide), ?_⟩
  refine List.forall_mem_cons.mpr ⟨ok_callV F spok_X3_running ln_st_P rcv_pW (by decide +kernel) (by decide) dX4_wake_4 (by decide), ?_⟩
  refine List.forall_mem_cons.mpr ⟨ok_if_gt F dX4_wake_7 (by decide) (by decide) (by decide), ?_⟩
  refine List.forall_mem_cons.mpr ⟨ok_aload_n F dX4_wake_10 rfl (by decide), ?_⟩
  refine List.forall_mem_cons.mpr ⟨ok_getf F flX4_77 dX4_wake_11 (by decide), ?_⟩
  refine List.forall_mem_cons.mpr ⟨ok_aload_n F dX4_wake_14 rfl (by decide), ?_⟩
  refine List.forall_mem_cons.mpr ⟨ok_getf F flX4_18 dX4_wake_15 (by decide), ?_⟩
  refine List.forall_mem_cons.mpr ⟨ok_iconst F dX4_wake_18 (by decide) (by decide), ?_⟩
  refine List.forall_mem_cons.mpr ⟨ok_iald F dX4_wake_19 (by decide), ?_⟩
  refine List.forall_mem_cons.mpr ⟨ok_aload_n F dX4_wake_20 rfl (by decide), ?_⟩
  refine List.forall_mem_cons.mpr ⟨ok_getf F flX4_18 dX4_wake_21 (by decide), ?_⟩
  refine List.forall_mem_cons.mpr ⟨ok_bipush F dX4_wake_24 (by decide) (by decide), ?_⟩
  refine List.forall_mem_cons.mpr ⟨ok_iald F dX4_wake_26 (by decide), ?_⟩
  refine List.forall_mem_cons.mpr ⟨ok_isub F dX4_wake_27 (by decide), ?_⟩
  refine List.forall_mem_cons.mpr ⟨ok_icmp_lt F dX4_wake_28 (by decide) (by decide) (by decide), ?_⟩
  refine List.forall_mem_cons.mpr ⟨ok_vret F G dX4_wake_31 (by decide), ?_⟩
  refine List.forall_mem_cons.mpr ⟨ok_aload_n F dX4_wake_32 rfl (by decide), ?_⟩
  refine List.forall_mem_cons.mpr ⟨ok_getf F flX4_26 dX4_wake_33 (by decide), ?_⟩
  refine List.forall_mem_cons.mpr ⟨ok_iconst F dX4_wake_36 (by decide) (by decide), ?_⟩
  refine List.forall_mem_cons.mpr ⟨ok_callV F spok_X3_readyInOrder ln_st_P rcv_pW (by decide +kernel) (by decide) dX4_wake_37 (by decide), ?_⟩
  refine List.forall_mem_cons.mpr ⟨ok_istore_n F dX4_wake_40 rfl (by decide) (by decide), ?_⟩
  refine List.forall_mem_cons.mpr ⟨ok_iload_n F dX4_wake_41 rfl (by decide), ?_⟩
  refine List.forall_mem_cons.mpr ⟨ok_iconst F dX4_wake_42 (by decide) (by decide), ?_⟩
  refine List.forall_mem_cons.mpr ⟨ok_icmp_eq F dX4_wake_43 (by decide) (by decide) (by decide), ?_⟩
  refine List.forall_mem_cons.mpr ⟨ok_aload_n F dX4_wake_46 rfl (by decide), ?_⟩
  refine List.forall_mem_cons.mpr ⟨ok_iload_n F dX4_wake_47 rfl (by decide), ?_⟩
  refine List.forall_mem_cons.mpr ⟨ok_aload_n F dX4_wake_48 rfl (by decide), ?_⟩
  refine List.forall_mem_cons.mpr ⟨ok_getf F flX4_18 dX4_wake_49 (by decide), ?_⟩
  refine List.forall_mem_cons.mpr ⟨ok_iconst F dX4_wake_52 (by decide) (by decide), ?_⟩
  refine List.forall_mem_cons.mpr ⟨ok_iald F dX4_wake_53 (by decide), ?_⟩
  refine List.forall_mem_cons.mpr ⟨ok_callV F spok_X4_start (ln_id stW) rcv_stW (by decide +kernel) (by decide) dX4_wake_54 (by decide), ?_⟩
  refine List.forall_mem_cons.mpr ⟨ok_aload_n F dX4_wake_57 rfl (by decide), ?_⟩
  refine List.forall_mem_cons.mpr ⟨ok_getf F flX4_47 dX4_wake_58 (by decide), ?_⟩
  refine List.forall_mem_cons.mpr ⟨ok_iconst F dX4_wake_61 (by decide) (by decide), ?_⟩
  refine List.forall_mem_cons.mpr ⟨ok_aload_n F dX4_wake_62 rfl (by decide), ?_⟩
  refine List.forall_mem_cons.mpr ⟨ok_getf F flX4_74 dX4_wake_63 (by decide), ?_⟩
  refine List.forall_mem_cons.mpr ⟨ok_iconst F dX4_wake_66 (by decide) (by decide), ?_⟩
  refine List.forall_mem_cons.mpr ⟨ok_callV F spok_X0_add ln_st_E rcv_eW (by decide +kernel) (by decide) dX4_wake_67 (by decide), ?_⟩
  refine List.forall_mem_cons.mpr ⟨ok_vret F G dX4_wake_70 (by decide), ?_⟩
  exact fun _ h => absurd h List.not_mem_nil
set_option maxRecDepth 100000 in
theorem w_X4_wake : (∀ (K : Kt ST) (n : Nat) (L : xL) (st : List Value) (S : ST), nx cod_X4_wake cut_X4_wake K (n + 1) 0 L st S = (O_aload 0 1) (nx cod_X4_wake cut_X4_wake K n) 0 L st S) ∧
  (∀ (K : Kt ST) (n : Nat) (L : xL) (st : List Value) (S : ST), nx cod_X4_wake cut_X4_wake K (n + 1) 1 L st S = (O_getf stW 4 1) (nx cod_X4_wake cut_X4_wake K n) 1 L st S) ∧
  (∀ (K : Kt ST) (n : Nat) (L : xL) (st : List Value) (S : ST), nx cod_X4_wake cut_X4_wake K (n + 1) 4 L st S = (O_callV 0 2 (fun S : ST => S.P) (fun S u => S.sP u) sp_X3_running) (nx cod_X4_wake cut_X4_wake K n) 4 L st S) ∧
  (∀ (K : Kt ST) (n : Nat) (L : xL) (st : List Value) (S : ST), nx cod_X4_wake cut_X4_wake K (n + 1) 7 L st S = (O_if_gt 31) (nx cod_X4_wake cut_X4_wake K n) 7 L st S) ∧
  (∀ (K : Kt ST) (n : Nat) (L : xL) (st : List Value) (S : ST), nx cod_X4_wake cut_X4_wake K (n + 1) 10 L st S = (O_aload 0 1) (nx cod_X4_wake cut_X4_wake K n) 10 L st S) ∧
  (∀ (K : Kt ST) (n : Nat) (L : xL) (st : List Value) (S : ST), nx cod_X4_wake cut_X4_wake K (n + 1) 11 L st S = (O_getf stW 4 6) (nx cod_X4_wake cut_X4_wake K n) 11 L st S) ∧
  (∀ (K : Kt ST) (n : Nat) (L : xL) (st : List Value) (S : ST), nx cod_X4_wake cut_X4_wake K (n + 1) 14 L st S = (O_aload 0 1) (nx cod_X4_wake cut_X4_wake K n) 14 L st S) ∧
  (∀ (K : Kt ST) (n : Nat) (L : xL) (st : List Value) (S : ST), nx cod_X4_wake cut_X4_wake K (n + 1) 15 L st S = (O_getf stW 4 0) (nx cod_X4_wake cut_X4_wake K n) 15 L st S) ∧
  (∀ (K : Kt ST) (n : Nat) (L : xL) (st : List Value) (S : ST), nx cod_X4_wake cut_X4_wake K (n + 1) 18 L st S = (O_int 0 1) (nx cod_X4_wake cut_X4_wake K n) 18 L st S) ∧
  (∀ (K : Kt ST) (n : Nat) (L : xL) (st : List Value) (S : ST), nx cod_X4_wake cut_X4_wake K (n + 1) 19 L st S = (O_ald stW 0) (nx cod_X4_wake cut_X4_wake K n) 19 L st S) ∧
  (∀ (K : Kt ST) (n : Nat) (L : xL) (st : List Value) (S : ST), nx cod_X4_wake cut_X4_wake K (n + 1) 20 L st S = (O_aload 0 1) (nx cod_X4_wake cut_X4_wake K n) 20 L st S) ∧
  (∀ (K : Kt ST) (n : Nat) (L : xL) (st : List Value) (S : ST), nx cod_X4_wake cut_X4_wake K (n + 1) 21 L st S = (O_getf stW 4 0) (nx cod_X4_wake cut_X4_wake K n) 21 L st S) ∧
  (∀ (K : Kt ST) (n : Nat) (L : xL) (st : List Value) (S : ST), nx cod_X4_wake cut_X4_wake K (n + 1) 24 L st S = (O_int 9 2) (nx cod_X4_wake cut_X4_wake K n) 24 L st S) ∧
  (∀ (K : Kt ST) (n : Nat) (L : xL) (st : List Value) (S : ST), nx cod_X4_wake cut_X4_wake K (n + 1) 26 L st S = (O_ald stW 0) (nx cod_X4_wake cut_X4_wake K n) 26 L st S) ∧
  (∀ (K : Kt ST) (n : Nat) (L : xL) (st : List Value) (S : ST), nx cod_X4_wake cut_X4_wake K (n + 1) 27 L st S = (O_isub) (nx cod_X4_wake cut_X4_wake K n) 27 L st S) ∧
  (∀ (K : Kt ST) (n : Nat) (L : xL) (st : List Value) (S : ST), nx cod_X4_wake cut_X4_wake K (n + 1) 28 L st S = (O_icmp_lt 32) (nx cod_X4_wake cut_X4_wake K n) 28 L st S) ∧
  (∀ (K : Kt ST) (n : Nat) (L : xL) (st : List Value) (S : ST), nx cod_X4_wake cut_X4_wake K (n + 1) 31 L st S = (O_vret) (nx cod_X4_wake cut_X4_wake K n) 31 L st S) ∧
  (∀ (K : Kt ST) (n : Nat) (L : xL) (st : List Value) (S : ST), nx cod_X4_wake cut_X4_wake K (n + 1) 32 L st S = (O_aload 0 1) (nx cod_X4_wake cut_X4_wake K n) 32 L st S) ∧
  (∀ (K : Kt ST) (n : Nat) (L : xL) (st : List Value) (S : ST), nx cod_X4_wake cut_X4_wake K (n + 1) 33 L st S = (O_getf stW 4 1) (nx cod_X4_wake cut_X4_wake K n) 33 L st S) ∧
  (∀ (K : Kt ST) (n : Nat) (L : xL) (st : List Value) (S : ST), nx cod_X4_wake cut_X4_wake K (n + 1) 36 L st S = (O_int 0 1) (nx cod_X4_wake cut_X4_wake K n) 36 L st S) ∧
  (∀ (K : Kt ST) (n : Nat) (L : xL) (st : List Value) (S : ST), nx cod_X4_wake cut_X4_wake K (n + 1) 37 L st S = (O_callV 1 2 (fun S : ST => S.P) (fun S u => S.sP u) sp_X3_readyInOrder) (nx cod_X4_wake cut_X4_wake K n) 37 L st S) ∧
  (∀ (K : Kt ST) (n : Nat) (L : xL) (st : List Value) (S : ST), nx cod_X4_wake cut_X4_wake K (n + 1) 40 L st S = (O_istore 1 1) (nx cod_X4_wake cut_X4_wake K n) 40 L st S) ∧
  (∀ (K : Kt ST) (n : Nat) (L : xL) (st : List Value) (S : ST), nx cod_X4_wake cut_X4_wake K (n + 1) 41 L st S = (O_iload 1 1) (nx cod_X4_wake cut_X4_wake K n) 41 L st S) ∧
  (∀ (K : Kt ST) (n : Nat) (L : xL) (st : List Value) (S : ST), nx cod_X4_wake cut_X4_wake K (n + 1) 42 L st S = (O_int (-1) 1) (nx cod_X4_wake cut_X4_wake K n) 42 L st S) ∧
  (∀ (K : Kt ST) (n : Nat) (L : xL) (st : List Value) (S : ST), nx cod_X4_wake cut_X4_wake K (n + 1) 43 L st S = (O_icmp_eq 70) (nx cod_X4_wake cut_X4_wake K n) 43 L st S) ∧
  (∀ (K : Kt ST) (n : Nat) (L : xL) (st : List Value) (S : ST), nx cod_X4_wake cut_X4_wake K (n + 1) 46 L st S = (O_aload 0 1) (nx cod_X4_wake cut_X4_wake K n) 46 L st S) ∧
  (∀ (K : Kt ST) (n : Nat) (L : xL) (st : List Value) (S : ST), nx cod_X4_wake cut_X4_wake K (n + 1) 47 L st S = (O_iload 1 1) (nx cod_X4_wake cut_X4_wake K n) 47 L st S) ∧
  (∀ (K : Kt ST) (n : Nat) (L : xL) (st : List Value) (S : ST), nx cod_X4_wake cut_X4_wake K (n + 1) 48 L st S = (O_aload 0 1) (nx cod_X4_wake cut_X4_wake K n) 48 L st S) ∧
  (∀ (K : Kt ST) (n : Nat) (L : xL) (st : List Value) (S : ST), nx cod_X4_wake cut_X4_wake K (n + 1) 49 L st S = (O_getf stW 4 0) (nx cod_X4_wake cut_X4_wake K n) 49 L st S) ∧
  (∀ (K : Kt ST) (n : Nat) (L : xL) (st : List Value) (S : ST), nx cod_X4_wake cut_X4_wake K (n + 1) 52 L st S = (O_int 4 1) (nx cod_X4_wake cut_X4_wake K n) 52 L st S) ∧
  (∀ (K : Kt ST) (n : Nat) (L : xL) (st : List Value) (S : ST), nx cod_X4_wake cut_X4_wake K (n + 1) 53 L st S = (O_ald stW 0) (nx cod_X4_wake cut_X4_wake K n) 53 L st S) ∧
  (∀ (K : Kt ST) (n : Nat) (L : xL) (st : List Value) (S : ST), nx cod_X4_wake cut_X4_wake K (n + 1) 54 L st S = (O_callV 2 0 (fun S => S) (fun _ S' => S') sp_X4_start) (nx cod_X4_wake cut_X4_wake K n) 54 L st S) ∧
  (∀ (K : Kt ST) (n : Nat) (L : xL) (st : List Value) (S : ST), nx cod_X4_wake cut_X4_wake K (n + 1) 57 L st S = (O_aload 0 1) (nx cod_X4_wake cut_X4_wake K n) 57 L st S) ∧
  (∀ (K : Kt ST) (n : Nat) (L : xL) (st : List Value) (S : ST), nx cod_X4_wake cut_X4_wake K (n + 1) 58 L st S = (O_getf stW 4 4) (nx cod_X4_wake cut_X4_wake K n) 58 L st S) ∧
  (∀ (K : Kt ST) (n : Nat) (L : xL) (st : List Value) (S : ST), nx cod_X4_wake cut_X4_wake K (n + 1) 61 L st S = (O_int 3 1) (nx cod_X4_wake cut_X4_wake K n) 61 L st S) ∧
  (∀ (K : Kt ST) (n : Nat) (L : xL) (st : List Value) (S : ST), nx cod_X4_wake cut_X4_wake K (n + 1) 62 L st S = (O_aload 0 1) (nx cod_X4_wake cut_X4_wake K n) 62 L st S) ∧
  (∀ (K : Kt ST) (n : Nat) (L : xL) (st : List Value) (S : ST), nx cod_X4_wake cut_X4_wake K (n + 1) 63 L st S = (O_getf stW 4 5) (nx cod_X4_wake cut_X4_wake K n) 63 L st S) ∧
  (∀ (K : Kt ST) (n : Nat) (L : xL) (st : List Value) (S : ST), nx cod_X4_wake cut_X4_wake K (n + 1) 66 L st S = (O_int (-1) 1) (nx cod_X4_wake cut_X4_wake K n) 66 L st S) ∧
  (∀ (K : Kt ST) (n : Nat) (L : xL) (st : List Value) (S : ST), nx cod_X4_wake cut_X4_wake K (n + 1) 67 L st S = (O_callV 3 19 (fun S : ST => S.E) (fun S u => S.sE u) sp_X0_add) (nx cod_X4_wake cut_X4_wake K n) 67 L st S) ∧
  (∀ (K : Kt ST) (n : Nat) (L : xL) (st : List Value) (S : ST), nx cod_X4_wake cut_X4_wake K (n + 1) 70 L st S = (O_vret) (nx cod_X4_wake cut_X4_wake K n) 70 L st S) ∧
  (∀ (K : Kt ST) (n : Nat) (L : xL) (st : List Value) (S : ST), nx cod_X4_wake cut_X4_wake K (n + 1) 100000 L st S = K 100000 L st S) := by
  repeat' apply And.intro
  all_goals (intros; rfl)
set_option maxRecDepth 100000 in
theorem mk_X4_wake {P P' : ST} {r : Option Value}  (body : ∀ E : En, CodOk E stW cod_X4_wake → Gd E stW 100000 [] r.toList P' → Gd E stW 0 [some (.ref 0), none] [] P) : Con yX4_wake cX4_wake 2 none 3 stW [.ref 0] P r P' :=
  Con.of (by decide) rfl rfl (Nat.le_of_ble_eq_true rfl) (fun E F G hr => body E (okc_X4_wake F G) hr)
theorem con_X4_wake (S : ST)  (hp : S.P.ok) : Con yX4_wake cX4_wake 2 none 3 stW [.ref 0] S (none) (S.wake) := by
  refine mk_X4_wake (fun E C hr => ?_)
  (refine nx_ok C (cuts := cut_X4_wake) 1000 _ _ _ _ ?_; simp only [w_X4_wake, ops_eq, xst_eq, call_eq, oK_eq, Option.toList_some, Option.toList_none, List.cons_append, List.nil_append, List.length_cons, List.length_nil, true_and, and_true, Nat.reduceAdd, stW_F, stW_A, stW_S, stW_P, ST_id, ST_gs, PT_gs, ZT_gs, NT_gs, ET_gs, se_X3_running, se_X3_readyInOrder, se_X4_start, se_X0_add, v19_eq, v8_eq, cl_eq])
  ((repeat' (with_reducible first | apply And.intro | intro _)) <;> simp_all [ST.wake, ST.event, ST_id, ST_gs, PT_gs, ZT_gs, NT_gs, ET_gs])
def sp_X4_wake : Sp ST := fun av S K => match av with
  | [.ref 0] => (S.P.ok) ∧ K (none) (S.wake)
  | _ => False
theorem se_X4_wake  (S : ST) (K : Option Value → ST → Prop) : sp_X4_wake [.ref 0] S K = ((S.P.ok) ∧ K (none) (S.wake)) := rfl
theorem spok_X4_wake : SpOk yX4_wake cX4_wake 2 none 3 stW sp_X4_wake := by
  intro av S K h
  unfold sp_X4_wake at h
  split at h
  · exact ⟨none, S.wake, trivial, con_X4_wake S  h.1, h.2⟩
  · exact h.elim
def ST.cascade1 (S : ST) : ST :=
  if ¬ oI (S.P.inOrd 0) = -1 ∧ ¬ S.toStart < S.settings 5 then S.start (oI (S.P.inOrd 0)) (S.settings 4)
  else if ¬ S.toStop < S.settings 6 ∧ (1 < S.P.running ∨ S.P.has S.P.vrb = false) then S.stop S.P.nextStop
  else (S.stop S.P.vrb).event 2 (-1)
def ST.anew (S : ST) : ST := ((S.sToStart 0).sToStop 0).sToSleep 0
def ST.idle (S : ST) : Prop := ¬ (¬ oI (S.P.inOrd 0) = -1 ∧ ¬ S.toStart < S.settings 5) ∧ ¬ (¬ S.toStop < S.settings 6 ∧ (1 < S.P.running ∨ S.P.has S.P.vrb = false)) ∧ S.toSleep < S.settings 8
def ST.idleB (S : ST) : Bool := decide (¬ (¬ oI (S.P.inOrd 0) = -1 ∧ ¬ S.toStart < S.settings 5) ∧ ¬ (¬ S.toStop < S.settings 6 ∧ (1 < S.P.running ∨ S.P.has S.P.vrb = false)) ∧ S.toSleep < S.settings 8)
def ST.cascade (S : ST) : ST := if S.idleB = true then S else S.cascade1.anew
def cod_X4_cascade : List (Nat × Op ST) := [(0, O_aload 0 1), (1, O_getf stW 4 1), (4, O_int 0 1), (5, O_callV 1 2 (fun S : ST => S.P) (fun S u => S.sP u) sp_X3_readyInOrder), (8, O_istore 1 1), (9, O_iload 1 1), (10, O_int (-1) 1), (11, O_icmp_eq 41), (14, O_aload 0 1), (15, O_getf stW 4 14), (18, O_aload 0 1), (19, O_getf stW 4 0), (22, O_int 5 1), (23, O_ald stW 0), (24, O_icmp_lt 41), (27, O_aload 0 1), (28, O_iload 1 1), (29, O_aload 0 1), (30, O_getf stW 4 0), (33, O_int 4 1), (34, O_ald stW 0), (35, O_callV 2 0 (fun S => S) (fun _ S' => S') sp_X4_start), (38, O_goto 134), (41, O_aload 0 1), (42, O_getf stW 4 15), (45, O_aload 0 1), (46, O_getf stW 4 0), (49, O_int 6 2), (51, O_ald stW 0), (52, O_icmp_lt 91), (55, O_aload 0 1), (56, O_getf stW 4 1), (59, O_callV 0 2 (fun S : ST => S.P) (fun S u => S.sP u) sp_X3_running), (62, O_int 1 1), (63, O_icmp_gt 76), (66, O_aload 0 1), (67, O_getf stW 4 1), (70, O_callV 0 2 (fun S : ST => S.P) (fun S u => S.sP u) sp_X3_hasVariable), (73, O_if_ne 91), (76, O_aload 0 1), (77, O_aload 0 1), (78, O_getf stW 4 1), (81, O_callV 0 2 (fun S : ST => S.P) (fun S u => S.sP u) sp_X3_nextToStop), (84, O_callV 1 0 (fun S => S) (fun _ S' => S') sp_X4_stop), (87, O_pop), (88, O_goto 134), (91, O_aload 0 1), (92, O_getf stW 4 16), (95, O_aload 0 1), (96, O_getf stW 4 0), (99, O_int 8 2), (101, O_ald stW 0), (102, O_icmp_lt 133), (105, O_aload 0 1), (106, O_aload 0 1), (107, O_getf stW 4 1), (110, O_getf stW 3 9), (113, O_callV 1 0 (fun S => S) (fun _ S' => S') sp_X4_stop), (116, O_pop), (117, O_aload 0 1), (118, O_getf stW 4 4), (121, O_int 2 1), (122, O_aload 0 1), (123, O_getf stW 4 5), (126, O_int (-1) 1), (127, O_callV 3 19 (fun S : ST => S.E) (fun S u => S.sE u) sp_X0_add), (130, O_goto 134), (133, O_vret), (134, O_aload 0 1), (135, O_callV 0 0 (fun S => S) (fun _ S' => S') sp_X4_beginMinutesAnew), (138, O_vret)]
abbrev cut_X4_cascade : List Nat := []
set_option maxRecDepth 100000 in
theorem okc_X4_cascade {E : En} (F : Fx E RX4 cX4_cascade 2 3) (G : Fr E none) : CodOk E stW cod_X4_cascade := by
  unfold CodOk cod_X4_cascade
  refine List.forall_mem_cons.mpr ⟨ok_aload_n F dX4_cascade_0 rfl (by decide), ?_⟩
  refine List.forall_mem_cons.mpr ⟨ok_getf F flX4_26 dX4_cascade_1 (by decide), ?_⟩
  refine List.forall_mem_cons.mpr ⟨ok_iconst F dX4_cascade_4 (by decide) (by decide), ?_⟩
  refine List.forall_mem_cons.mpr ⟨ok_callV F spok_X3_readyInOrder ln_st_P rcv_pW (by decide +kernel) (by decide) dX4_cascade_5 (by decide), ?_⟩
  refine List.forall_mem_cons.mpr ⟨ok_istore_n F dX4_cascade_8 rfl (by decide) (by decide), ?_⟩
  refine List.forall_mem_cons.mpr ⟨ok_iload_n F dX4_cascade_9 rfl (by decide), ?_⟩
  refine List.forall_mem_cons.mpr ⟨ok_iconst F dX4_cascade_10 (by decide) (by decide), ?_⟩
  refine List.forall_mem_cons.mpr ⟨ok_icmp_eq F dX4_cascade_11 (by decide) (by decide) (by decide), ?_⟩
  refine List.forall_mem_cons.mpr ⟨ok_aload_n F dX4_cascade_14 rfl (by decide), ?_⟩
  refine List.forall_mem_cons.mpr ⟨ok_getf F flX4_99 dX4_cascade_15 (by decide), ?_⟩
  refine List.forall_mem_cons.mpr ⟨ok_aload_n F dX4_cascade_18 rfl (by decide), ?_⟩
  refine List.forall_mem_cons.mpr ⟨ok_getf F flX4_18 dX4_cascade_19 (by decide), ?_⟩
  refine List.forall_mem_cons.mpr ⟨ok_iconst F dX4_cascade_22 (by decide) (by decide), ?_⟩
  refine List.forall_mem_cons.mpr ⟨ok_iald F dX4_cascade_23 (by decide), ?_⟩
  refine List.forall_mem_cons.mpr ⟨ok_icmp_lt F dX4_cascade_24 (by decide) (by decide) (by decide), ?_⟩
  refine List.forall_mem_cons.mpr ⟨ok_aload_n F dX4_cascade_27 rfl (by decide), ?_⟩
  refine List.forall_mem_cons.mpr ⟨ok_iload_n F dX4_cascade_28 rfl (by decide), ?_⟩
  refine List.forall_mem_cons.mpr ⟨ok_aload_n F dX4_cascade_29 rfl (by decide), ?_⟩
  refine List.forall_mem_cons.mpr ⟨ok_getf F flX4_18 dX4_cascade_30 (by decide), ?_⟩
  refine List.forall_mem_cons.mpr ⟨ok_iconst F dX4_cascade_33 (by decide) (by decide), ?_⟩
  refine List.forall_mem_cons.mpr ⟨ok_iald F dX4_cascade_34 (by decide), ?_⟩
  refine List.forall_mem_cons.mpr ⟨ok_callV F spok_X4_start (ln_id stW) rcv_stW (by decide +kernel) (by decide) dX4_cascade_35 (by decide), ?_⟩
  refine List.forall_mem_cons.mpr ⟨ok_goto F dX4_cascade_38 (by decide) (by decide) (by decide), ?_⟩
  refine List.forall_mem_cons.mpr ⟨ok_aload_n F dX4_cascade_41 rfl (by decide), ?_⟩
  refine List.forall_mem_cons.mpr ⟨ok_getf F flX4_102 dX4_cascade_42 (by decide), ?_⟩
  refine List.forall_mem_cons.mpr ⟨ok_aload_n F dX4_cascade_45 rfl (by decide), ?_⟩
  refine List.forall_mem_cons.mpr ⟨ok_getf F flX4_18 dX4_cascade_46 (by decide), ?_⟩
  refine List.forall_mem_cons.mpr ⟨ok_bipush F dX4_cascade_49 (by decide) (by decide), ?_⟩
  refine List.forall_mem_cons.mpr ⟨ok_iald F dX4_cascade_51 (by decide), ?_⟩
  refine List.forall_mem_cons.mpr ⟨ok_icmp_lt F dX4_cascade_52 (by decide) (by decide) (by decide), ?_⟩
  refine List.forall_mem_cons.mpr ⟨ok_aload_n F dX4_cascade_55 rfl (by decide), ?_⟩
  refine List.forall_mem_cons.mpr ⟨ok_getf F flX4_26 dX4_cascade_56 (by decide), ?_⟩
  refine List.forall_mem_cons.mpr ⟨ok_callV F spok_X3_running ln_st_P rcv_pW (by decide +kernel) (by decide) dX4_cascade_59 (by decide), ?_⟩
  refine List.forall_mem_cons.mpr ⟨ok_iconst F dX4_cascade_62 (by decide) (by decide), ?_⟩
  refine List.forall_mem_cons.mpr ⟨ok_icmp_gt F dX4_cascade_63 (by decide) (by decide) (by decide), ?_⟩
  refine List.forall_mem_cons.mpr ⟨ok_aload_n F dX4_cascade_66 rfl (by decide), ?_⟩
  refine List.forall_mem_cons.mpr ⟨ok_getf F flX4_26 dX4_cascade_67 (by decide), ?_⟩
  refine List.forall_mem_cons.mpr ⟨ok_callV F spok_X3_hasVariable ln_st_P rcv_pW (by decide +kernel) (by decide) dX4_cascade_70 (by decide), ?_⟩
  refine List.forall_mem_cons.mpr ⟨ok_if_ne F dX4_cascade_73 (by decide) (by decide) (by decide), ?_⟩
  refine List.forall_mem_cons.mpr ⟨ok_aload_n F dX4_cascade_76 rfl (by decide), ?_⟩
  refine List.forall_mem_cons.mpr ⟨ok_aload_n F dX4_cascade_77 rfl (by decide), ?_⟩
  refine List.forall_mem_cons.mpr ⟨ok_getf F flX4_26 dX4_cascade_78 (by decide), ?_⟩
  refine List.forall_mem_cons.mpr ⟨ok_callV F spok_X3_nextToStop ln_st_P rcv_pW (by decide +kernel) (by decide) dX4_cascade_81 (by decide), ?_⟩
  refine List.forall_mem_cons.mpr ⟨ok_callV F spok_X4_stop (ln_id stW) rcv_stW (by decide +kernel) (by decide) dX4_cascade_84 (by decide), ?_⟩
  refine List.forall_mem_cons.mpr ⟨ok_pop F dX4_cascade_87 (by decide), ?_⟩
  refine List.forall_mem_cons.mpr ⟨ok_goto F dX4_cascade_88 (by decide) (by decide) (by decide), ?_⟩
  refine List.forall_mem_cons.mpr ⟨ok_aload_n F dX4_cascade_91 rfl (by decide), ?_⟩
  refine List.forall_mem_cons.mpr ⟨ok_getf F flX4_105 dX4_cascade_92 (by decide), ?_⟩
  refine List.forall_mem_cons.mpr ⟨ok_aload_n F dX4_cascade_95 rfl (by decide), ?_⟩
  refine List.forall_mem_cons.mpr ⟨ok_getf F flX4_18 dX4_cascade_96 (by decide), ?_⟩
  refine List.forall_mem_cons.mpr ⟨ok_bipush F dX4_cascade_99 (by decide) (by decide), ?_⟩
  refine List.forall_mem_cons.mpr ⟨ok_iald F dX4_cascade_101 (by decide), ?_⟩
  refine List.forall_mem_cons.mpr ⟨ok_icmp_lt F dX4_cascade_102 (by decide) (by decide) (by decide), ?_⟩
  refine List.forall_mem_cons.mpr ⟨ok_aload_n F dX4_cascade_105 rfl (by decide), ?_⟩
  refine List.forall_mem_cons.mpr ⟨ok_aload_n F dX4_cascade_106 rfl (by decide), ?_⟩
  refine List.forall_mem_cons.mpr ⟨ok_getf F flX4_26 dX4_cascade_107 (by decide), ?_⟩
  refine List.forall_mem_cons.mpr ⟨ok_getf F flX4_208 dX4_cascade_110 (by decide), ?_⟩
  refine List.forall_mem_cons.mpr ⟨ok_callV F spok_X4_stop (ln_id stW) rcv_stW (by decide +kernel) (by decide) dX4_cascade_113 (by decide), ?_⟩
  refine List.forall_mem_cons.mpr ⟨ok_pop F dX4_cascade_116 (by decide), ?_⟩
  refine List.forall_mem_cons.mpr ⟨ok_aload_n F dX4_cascade_117 rfl (by decide), ?_⟩
  refine List.forall_mem_cons.mpr ⟨ok_getf F flX4_47 dX4_cascade_118 (by decide), ?_⟩
  refine List.forall_mem_cons.mpr ⟨ok_iconst F dX4_cascade_121 (by decide) (by decide), ?_⟩
  refine List.forall_mem_cons.mpr ⟨ok_aload_n F dX4_cascade_122 rfl (by decide), ?_⟩
  refine List.forall_mem_cons.mpr ⟨ok_getf F flX4_74 dX4_cascade_123 (by decide), ?_⟩
  refine List.forall_mem_cons.mpr ⟨ok_iconst F dX4_cascade_126 (by decide) (by decide), ?_⟩
  refine List.forall_mem_cons.mpr ⟨ok_callV F spok_X0_add ln_st_E rcv_eW (by decide +kernel) (by decide) dX4_cascade_127 (by decide), ?_⟩
  refine List.forall_mem_cons.mpr ⟨ok_goto F dX4_cascade_130 (by decide) (by decide) (by decide), ?_⟩
  refine List.forall_mem_cons.mpr ⟨ok_vret F G dX4_cascade_133 (by decide), ?_⟩
  refine List.forall_mem_cons.mpr ⟨ok_aload_n F dX4_cascade_134 rfl (by decide), ?_⟩
  refine List.forall_mem_cons.mpr ⟨ok_callV F spok_X4_beginMinutesAnew (ln_id stW) rcv_stW (by decide +kernel) (by decide) dX4_cascade_135 (by decide), ?_⟩
  refine List.forall_mem_cons.mpr ⟨ok_vret F G dX4_cascade_138 (by decide), ?_⟩
  exact fun _ h => absurd h List.not_mem_nil
set_option maxRecDepth 100000 in
theorem w_X4_cascade : (∀ (K : Kt ST) (n : Nat) (L : xL) (st : List Value) (S : ST), nx cod_X4_cascade cut_X4_cascade K (n + 1) 0 L st S = (O_aload 0 1) (nx cod_X4_cascade cut_X4_cascade K n) 0 L st S) ∧
  (∀ (K : Kt ST) (n : Nat) (L : xL) (st : List Value) (S : ST), nx cod_X4_cascade cut_X4_cascade K (n + 1) 1 L st S = (O_getf stW 4 1) (nx cod_X4_cascade cut_X4_cascade K n) 1 L st S) ∧
  (∀ (K : Kt ST) (n : Nat) (L : xL) (st : List Value) (S : ST), nx cod_X4_cascade cut_X4_cascade K (n + 1) 4 L st S = (O_int 0 1) (nx cod_X4_cascade cut_X4_cascade K n) 4 L st S) ∧
  (∀ (K : Kt ST) (n : Nat) (L : xL) (st : List Value) (S : ST), nx cod_X4_cascade cut_X4_cascade K (n + 1) 5 L st S = (O_callV 1 2 (fun S : ST => S.P) (fun S u => S.sP u) sp_X3_readyInOrder) (nx cod_X4_cascade cut_X4_cascade K n) 5 L st S) ∧
  (∀ (K : Kt ST) (n : Nat) (L : xL) (st : List Value) (S : ST), nx cod_X4_cascade cut_X4_cascade K (n + 1) 8 L st S = (O_istore 1 1) (nx cod_X4_cascade cut_X4_cascade K n) 8 L st S) ∧
  (∀ (K : Kt ST) (n : Nat) (L : xL) (st : List Value) (S : ST), nx cod_X4_cascade cut_X4_cascade K (n + 1) 9 L st S = (O_iload 1 1) (nx cod_X4_cascade cut_X4_cascade K n) 9 L st S) ∧
  (∀ (K : Kt ST) (n : Nat) (L : xL) (st : List Value) (S : ST), nx cod_X4_cascade cut_X4_cascade K (n + 1) 10 L st S = (O_int (-1) 1) (nx cod_X4_cascade cut_X4_cascade K n) 10 L st S) ∧
  (∀ (K : Kt ST) (n : Nat) (L : xL) (st : List Value) (S : ST), nx cod_X4_cascade cut_X4_cascade K (n + 1) 11 L st S = (O_icmp_eq 41) (nx cod_X4_cascade cut_X4_cascade K n) 11 L st S) ∧
  (∀ (K : Kt ST) (n : Nat) (L : xL) (st : List Value) (S : ST), nx cod_X4_cascade cut_X4_cascade K (n + 1) 14 L st S = (O_aload 0 1) (nx cod_X4_cascade cut_X4_cascade K n) 14 L st S) ∧
  (∀ (K : Kt ST) (n : Nat) (L : xL) (st : List Value) (S : ST), nx cod_X4_cascade cut_X4_cascade K (n + 1) 15 L st S = (O_getf stW 4 14) (nx cod_X4_cascade cut_X4_cascade K n) 15 L st S) ∧
  (∀ (K : Kt ST) (n : Nat) (L : xL) (st : List Value) (S : ST), nx cod_X4_cascade cut_X4_cascade K (n + 1) 18 L st S = (O_aload 0 1) (nx cod_X4_cascade cut_X4_cascade K n) 18 L st S) ∧
  (∀ (K : Kt ST) (n : Nat) (L : xL) (st : List Value) (S : ST), nx cod_X4_cascade cut_X4_cascade K (n + 1) 19 L st S = (O_getf stW 4 0) (nx cod_X4_cascade cut_X4_cascade K n) 19 L st S) ∧
  (∀ (K : Kt ST) (n : Nat) (L : xL) (st : List Value) (S : ST), nx cod_X4_cascade cut_X4_cascade K (n + 1) 22 L st S = (O_int 5 1) (nx cod_X4_cascade cut_X4_cascade K n) 22 L st S) ∧
  (∀ (K : Kt ST) (n : Nat) (L : xL) (st : List Value) (S : ST), nx cod_X4_cascade cut_X4_cascade K (n + 1) 23 L st S = (O_ald stW 0) (nx cod_X4_cascade cut_X4_cascade K n) 23 L st S) ∧
  (∀ (K : Kt ST) (n : Nat) (L : xL) (st : List Value) (S : ST), nx cod_X4_cascade cut_X4_cascade K (n + 1) 24 L st S = (O_icmp_lt 41) (nx cod_X4_cascade cut_X4_cascade K n) 24 L st S) ∧
  (∀ (K : Kt ST) (n : Nat) (L : xL) (st : List Value) (S : ST), nx cod_X4_cascade cut_X4_cascade K (n + 1) 27 L st S = (O_aload 0 1) (nx cod_X4_cascade cut_X4_cascade K n) 27 L st S) ∧
  (∀ (K : Kt ST) (n : Nat) (L : xL) (st : List Value) (S : ST), nx cod_X4_cascade cut_X4_cascade K (n + 1) 28 L st S = (O_iload 1 1) (nx cod_X4_cascade cut_X4_cascade K n) 28 L st S) ∧
  (∀ (K : Kt ST) (n : Nat) (L : xL) (st : List Value) (S : ST), nx cod_X4_cascade cut_X4_cascade K (n + 1) 29 L st S = (O_aload 0 1) (nx cod_X4_cascade cut_X4_cascade K n) 29 L st S) ∧
  (∀ (K : Kt ST) (n : Nat) (L : xL) (st : List Value) (S : ST), nx cod_X4_cascade cut_X4_cascade K (n + 1) 30 L st S = (O_getf stW 4 0) (nx cod_X4_cascade cut_X4_cascade K n) 30 L st S) ∧
  (∀ (K : Kt ST) (n : Nat) (L : xL) (st : List Value) (S : ST), nx cod_X4_cascade cut_X4_cascade K (n + 1) 33 L st S = (O_int 4 1) (nx cod_X4_cascade cut_X4_cascade K n) 33 L st S) ∧
  (∀ (K : Kt ST) (n : Nat) (L : xL) (st : List Value) (S : ST), nx cod_X4_cascade cut_X4_cascade K (n + 1) 34 L st S = (O_ald stW 0) (nx cod_X4_cascade cut_X4_cascade K n) 34 L st S) ∧
  (∀ (K : Kt ST) (n : Nat) (L : xL) (st : List Value) (S : ST), nx cod_X4_cascade cut_X4_cascade K (n + 1) 35 L st S = (O_callV 2 0 (fun S => S) (fun _ S' => S') sp_X4_start) (nx cod_X4_cascade cut_X4_cascade K n) 35 L st S) ∧
  (∀ (K : Kt ST) (n : Nat) (L : xL) (st : List Value) (S : ST), nx cod_X4_cascade cut_X4_cascade K (n + 1) 38 L st S = (O_goto 134) (nx cod_X4_cascade cut_X4_cascade K n) 38 L st S) ∧
  (∀ (K : Kt ST) (n : Nat) (L : xL) (st : List Value) (S : ST), nx cod_X4_cascade cut_X4_cascade K (n + 1) 41 L st S = (O_aload 0 1) (nx cod_X4_cascade cut_X4_cascade K n) 41 L st S) ∧
  (∀ (K : Kt ST) (n : Nat) (L : xL) (st : List Value) (S : ST), nx cod_X4_cascade cut_X4_cascade K (n + 1) 42 L st S = (O_getf stW 4 15) (nx cod_X4_cascade cut_X4_cascade K n) 42 L st S) ∧
  (∀ (K : Kt ST) (n : Nat) (L : xL) (st : List Value) (S : ST), nx cod_X4_cascade cut_X4_cascade K (n + 1) 45 L st S = (O_aload 0 1) (nx cod_X4_cascade cut_X4_cascade K n) 45 L st S) ∧
  (∀ (K : Kt ST) (n : Nat) (L : xL) (st : List Value) (S : ST), nx cod_X4_cascade cut_X4_cascade K (n + 1) 46 L st S = (O_getf stW 4 0) (nx cod_X4_cascade cut_X4_cascade K n) 46 L st S) ∧
  (∀ (K : Kt ST) (n : Nat) (L : xL) (st : List Value) (S : ST), nx cod_X4_cascade cut_X4_cascade K (n + 1) 49 L st S = (O_int 6 2) (nx cod_X4_cascade cut_X4_cascade K n) 49 L st S) ∧
  (∀ (K : Kt ST) (n : Nat) (L : xL) (st : List Value) (S : ST), nx cod_X4_cascade cut_X4_cascade K (n + 1) 51 L st S = (O_ald stW 0) (nx cod_X4_cascade cut_X4_cascade K n) 51 L st S) ∧
  (∀ (K : Kt ST) (n : Nat) (L : xL) (st : List Value) (S : ST), nx cod_X4_cascade cut_X4_cascade K (n + 1) 52 L st S = (O_icmp_lt 91) (nx cod_X4_cascade cut_X4_cascade K n) 52 L st S) ∧
  (∀ (K : Kt ST) (n : Nat) (L : xL) (st : List Value) (S : ST), nx cod_X4_cascade cut_X4_cascade K (n + 1) 55 L st S = (O_aload 0 1) (nx cod_X4_cascade cut_X4_cascade K n) 55 L st S) ∧
  (∀ (K : Kt ST) (n : Nat) (L : xL) (st : List Value) (S : ST), nx cod_X4_cascade cut_X4_cascade K (n + 1) 56 L st S = (O_getf stW 4 1) (nx cod_X4_cascade cut_X4_cascade K n) 56 L st S) ∧
  (∀ (K : Kt ST) (n : Nat) (L : xL) (st : List Value) (S : ST), nx cod_X4_cascade cut_X4_cascade K (n + 1) 59 L st S = (O_callV 0 2 (fun S : ST => S.P) (fun S u => S.sP u) sp_X3_running) (nx cod_X4_cascade cut_X4_cascade K n) 59 L st S) ∧
  (∀ (K : Kt ST) (n : Nat) (L : xL) (st : List Value) (S : ST), nx cod_X4_cascade cut_X4_cascade K (n + 1) 62 L st S = (O_int 1 1) (nx cod_X4_cascade cut_X4_cascade K n) 62 L st S) ∧
  (∀ (K : Kt ST) (n : Nat) (L : xL) (st : List Value) (S : ST), nx cod_X4_cascade cut_X4_cascade K (n + 1) 63 L st S = (O_icmp_gt 76) (nx cod_X4_cascade cut_X4_cascade K n) 63 L st S) ∧
  (∀ (K : Kt ST) (n : Nat) (L : xL) (st : List Value) (S : ST), nx cod_X4_cascade cut_X4_cascade K (n + 1) 66 L st S = (O_aload 0 1) (nx cod_X4_cascade cut_X4_cascade K n) 66 L st S) ∧
  (∀ (K : Kt ST) (n : Nat) (L : xL) (st : List Value) (S : ST), nx cod_X4_cascade cut_X4_cascade K (n + 1) 67 L st S = (O_getf stW 4 1) (nx cod_X4_cascade cut_X4_cascade K n) 67 L st S) ∧
  (∀ (K : Kt ST) (n : Nat) (L : xL) (st : List Value) (S : ST), nx cod_X4_cascade cut_X4_cascade K (n + 1) 70 L st S = (O_callV 0 2 (fun S : ST => S.P) (fun S u => S.sP u) sp_X3_hasVariable) (nx cod_X4_cascade cut_X4_cascade K n) 70 L st S) ∧
  (∀ (K : Kt ST) (n : Nat) (L : xL) (st : List Value) (S : ST), nx cod_X4_cascade cut_X4_cascade K (n + 1) 73 L st S = (O_if_ne 91) (nx cod_X4_cascade cut_X4_cascade K n) 73 L st S) ∧
  (∀ (K : Kt ST) (n : Nat) (L : xL) (st : List Value) (S : ST), nx cod_X4_cascade cut_X4_cascade K (n + 1) 76 L st S = (O_aload 0 1) (nx cod_X4_cascade cut_X4_cascade K n) 76 L st S) ∧
  (∀ (K : Kt ST) (n : Nat) (L : xL) (st : List Value) (S : ST), nx cod_X4_cascade cut_X4_cascade K (n + 1) 77 L st S = (O_aload 0 1) (nx cod_X4_cascade cut_X4_cascade K n) 77 L st S) ∧
  (∀ (K : Kt ST) (n : Nat) (L : xL) (st : List Value) (S : ST), nx cod_X4_cascade cut_X4_cascade K (n + 1) 78 L st S = (O_getf stW 4 1) (nx cod_X4_cascade cut_X4_cascade K n) 78 L st S) ∧
  (∀ (K : Kt ST) (n : Nat) (L : xL) (st : List Value) (S : ST), nx cod_X4_cascade cut_X4_cascade K (n + 1) 81 L st S = (O_callV 0 2 (fun S : ST => S.P) (fun S u => S.sP u) sp_X3_nextToStop) (nx cod_X4_cascade cut_X4_cascade K n) 81 L st S) ∧
  (∀ (K : Kt ST) (n : Nat) (L : xL) (st : List Value) (S : ST), nx cod_X4_cascade cut_X4_cascade K (n + 1) 84 L st S = (O_callV 1 0 (fun S => S) (fun _ S' => S') sp_X4_stop) (nx cod_X4_cascade cut_X4_cascade K n) 84 L st S) ∧
  (∀ (K : Kt ST) (n : Nat) (L : xL) (st : List Value) (S : ST), nx cod_X4_cascade cut_X4_cascade K (n + 1) 87 L st S = (O_pop) (nx cod_X4_cascade cut_X4_cascade K n) 87 L st S) ∧
  (∀ (K : Kt ST) (n : Nat) (L : xL) (st : List Value) (S : ST), nx cod_X4_cascade cut_X4_cascade K (n + 1) 88 L st S = (O_goto 134) (nx cod_X4_cascade cut_X4_cascade K n) 88 L st S) ∧
  (∀ (K : Kt ST) (n : Nat) (L : xL) (st : List Value) (S : ST), nx cod_X4_cascade cut_X4_cascade K (n + 1) 91 L st S = (O_aload 0 1) (nx cod_X4_cascade cut_X4_cascade K n) 91 L st S) ∧
  (∀ (K : Kt ST) (n : Nat) (L : xL) (st : List Value) (S : ST), nx cod_X4_cascade cut_X4_cascade K (n + 1) 92 L st S = (O_getf stW 4 16) (nx cod_X4_cascade cut_X4_cascade K n) 92 L st S) ∧
  (∀ (K : Kt ST) (n : Nat) (L : xL) (st : List Value) (S : ST), nx cod_X4_cascade cut_X4_cascade K (n + 1) 95 L st S = (O_aload 0 1) (nx cod_X4_cascade cut_X4_cascade K n) 95 L st S) ∧
  (∀ (K : Kt ST) (n : Nat) (L : xL) (st : List Value) (S : ST), nx cod_X4_cascade cut_X4_cascade K (n + 1) 96 L st S = (O_getf stW 4 0) (nx cod_X4_cascade cut_X4_cascade K n) 96 L st S) ∧
  (∀ (K : Kt ST) (n : Nat) (L : xL) (st : List Value) (S : ST), nx cod_X4_cascade cut_X4_cascade K (n + 1) 99 L st S = (O_int 8 2) (nx cod_X4_cascade cut_X4_cascade K n) 99 L st S) ∧
  (∀ (K : Kt ST) (n : Nat) (L : xL) (st : List Value) (S : ST), nx cod_X4_cascade cut_X4_cascade K (n + 1) 101 L st S = (O_ald stW 0) (nx cod_X4_cascade cut_X4_cascade K n) 101 L st S) ∧
  (∀ (K : Kt ST) (n : Nat) (L : xL) (st : List Value) (S : ST), nx cod_X4_cascade cut_X4_cascade K (n + 1) 102 L st S = (O_icmp_lt 133) (nx cod_X4_cascade cut_X4_cascade K n) 102 L st S) ∧
  (∀ (K : Kt ST) (n : Nat) (L : xL) (st : List Value) (S : ST), nx cod_X4_cascade cut_X4_cascade K (n + 1) 105 L st S = (O_aload 0 1) (nx cod_X4_cascade cut_X4_cascade K n) 105 L st S) ∧
  (∀ (K : Kt ST) (n : Nat) (L : xL) (st : List Value) (S : ST), nx cod_X4_cascade cut_X4_cascade K (n + 1) 106 L st S = (O_aload 0 1) (nx cod_X4_cascade cut_X4_cascade K n) 106 L st S) ∧
  (∀ (K : Kt ST) (n : Nat) (L : xL) (st : List Value) (S : ST), nx cod_X4_cascade cut_X4_cascade K (n + 1) 107 L st S = (O_getf stW 4 1) (nx cod_X4_cascade cut_X4_cascade K n) 107 L st S) ∧
  (∀ (K : Kt ST) (n : Nat) (L : xL) (st : List Value) (S : ST), nx cod_X4_cascade cut_X4_cascade K (n + 1) 110 L st S = (O_getf stW 3 9) (nx cod_X4_cascade cut_X4_cascade K n) 110 L st S) ∧
  (∀ (K : Kt ST) (n : Nat) (L : xL) (st : List Value) (S : ST), nx cod_X4_cascade cut_X4_cascade K (n + 1) 113 L st S = (O_callV 1 0 (fun S => S) (fun _ S' => S') sp_X4_stop) (nx cod_X4_cascade cut_X4_cascade K n) 113 L st S) ∧
  (∀ (K : Kt ST) (n : Nat) (L : xL) (st : List Value) (S : ST), nx cod_X4_cascade cut_X4_cascade K (n + 1) 116 L st S = (O_pop) (nx cod_X4_cascade cut_X4_cascade K n) 116 L st S) ∧
  (∀ (K : Kt ST) (n : Nat) (L : xL) (st : List Value) (S : ST), nx cod_X4_cascade cut_X4_cascade K (n + 1) 117 L st S = (O_aload 0 1) (nx cod_X4_cascade cut_X4_cascade K n) 117 L st S) ∧
  (∀ (K : Kt ST) (n : Nat) (L : xL) (st : List Value) (S : ST), nx cod_X4_cascade cut_X4_cascade K (n + 1) 118 L st S = (O_getf stW 4 4) (nx cod_X4_cascade cut_X4_cascade K n) 118 L st S) ∧
  (∀ (K : Kt ST) (n : Nat) (L : xL) (st : List Value) (S : ST), nx cod_X4_cascade cut_X4_cascade K (n + 1) 121 L st S = (O_int 2 1) (nx cod_X4_cascade cut_X4_cascade K n) 121 L st S) ∧
  (∀ (K : Kt ST) (n : Nat) (L : xL) (st : List Value) (S : ST), nx cod_X4_cascade cut_X4_cascade K (n + 1) 122 L st S = (O_aload 0 1) (nx cod_X4_cascade cut_X4_cascade K n) 122 L st S) ∧
  (∀ (K : Kt ST) (n : Nat) (L : xL) (st : List Value) (S : ST), nx cod_X4_cascade cut_X4_cascade K (n + 1) 123 L st S = (O_getf stW 4 5) (nx cod_X4_cascade cut_X4_cascade K n) 123 L st S) ∧
  (∀ (K : Kt ST) (n : Nat) (L : xL) (st : List Value) (S : ST), nx cod_X4_cascade cut_X4_cascade K (n + 1) 126 L st S = (O_int (-1) 1) (nx cod_X4_cascade cut_X4_cascade K n) 126 L st S) ∧
  (∀ (K : Kt ST) (n : Nat) (L : xL) (st : List Value) (S : ST), nx cod_X4_cascade cut_X4_cascade K (n + 1) 127 L st S = (O_callV 3 19 (fun S : ST => S.E) (fun S u => S.sE u) sp_X0_add) (nx cod_X4_cascade cut_X4_cascade K n) 127 L st S) ∧
  (∀ (K : Kt ST) (n : Nat) (L : xL) (st : List Value) (S : ST), nx cod_X4_cascade cut_X4_cascade K (n + 1) 130 L st S = (O_goto 134) (nx cod_X4_cascade cut_X4_cascade K n) 130 L st S) ∧
  (∀ (K : Kt ST) (n : Nat) (L : xL) (st : List Value) (S : ST), nx cod_X4_cascade cut_X4_cascade K (n + 1) 133 L st S = (O_vret) (nx cod_X4_cascade cut_X4_cascade K n) 133 L st S) ∧
  (∀ (K : Kt ST) (n : Nat) (L : xL) (st : List Value) (S : ST), nx cod_X4_cascade cut_X4_cascade K (n + 1) 134 L st S = (O_aload 0 1) (nx cod_X4_cascade cut_X4_cascade K n) 134 L st S) ∧
  (∀ (K : Kt ST) (n : Nat) (L : xL) (st : List Value) (S : ST), nx cod_X4_cascade cut_X4_cascade K (n + 1) 135 L st S = (O_callV 0 0 (fun S => S) (fun _ S' => S') sp_X4_beginMinutesAnew) (nx cod_X4_cascade cut_X4_cascade K n) 135 L st S) ∧
  (∀ (K : Kt ST) (n : Nat) (L : xL) (st : List Value) (S : ST), nx cod_X4_cascade cut_X4_cascade K (n + 1) 138 L st S = (O_vret) (nx cod_X4_cascade cut_X4_cascade K n) 138 L st S) ∧
  (∀ (K : Kt ST) (n : Nat) (L : xL) (st : List Value) (S : ST), nx cod_X4_cascade cut_X4_cascade K (n + 1) 100000 L st S = K 100000 L st S) := by
  repeat' apply And.intro
  all_goals (intros; rfl)
set_option maxRecDepth 100000 in
theorem mk_X4_cascade {P P' : ST} {r : Option Value}  (body : ∀ E : En, CodOk E stW cod_X4_cascade → Gd E stW 100000 [] r.toList P' → Gd E stW 0 [some (.ref 0), none] [] P) : Con yX4_cascade cX4_cascade 2 none 3 stW [.ref 0] P r P' :=
  Con.of (by decide) rfl rfl (Nat.le_of_ble_eq_true rfl) (fun E F G hr => body E (okc_X4_cascade F G) hr)
theorem con_X4_cascade (S : ST)  (hp : S.P.ok) : Con yX4_cascade cX4_cascade 2 none 3 stW [.ref 0] S (none) (S.cascade) := by
  refine mk_X4_cascade (fun E C hr => ?_)
  (refine nx_ok C (cuts := cut_X4_cascade) 1000 _ _ _ _ ?_; simp only [w_X4_cascade, ops_eq, xst_eq, call_eq, oK_eq, Option.toList_some, Option.toList_none, List.cons_append, List.nil_append, List.length_cons, List.length_nil, true_and, and_true, Nat.reduceAdd, stW_F, stW_A, stW_S, stW_P, ST_id, ST_gs, PT_gs, ZT_gs, NT_gs, ET_gs, se_X3_readyInOrder, se_X4_start, se_X3_running, se_X3_hasVariable, se_X3_nextToStop, se_X4_stop, se_X0_add, se_X4_beginMinutesAnew, v19_eq, v8_eq, cl_eq, bI_eq])
  ((repeat' (with_reducible first | apply And.intro | intro _)) <;> simp_all [ST.cascade, ST.cascade1, ST.idleB, ST.anew, ST.event, ST_id, ST_gs, PT_gs, ZT_gs, NT_gs, ET_gs])
def sp_X4_cascade : Sp ST := fun av S K => match av with
  | [.ref 0] => (S.P.ok) ∧ K (none) (S.cascade)
  | _ => False
theorem se_X4_cascade  (S : ST) (K : Option Value → ST → Prop) : sp_X4_cascade [.ref 0] S K = ((S.P.ok) ∧ K (none) (S.cascade)) := rfl
theorem spok_X4_cascade : SpOk yX4_cascade cX4_cascade 2 none 3 stW sp_X4_cascade := by
  intro av S K h
  unfold sp_X4_cascade at h
  split at h
  · exact ⟨none, S.cascade, trivial, con_X4_cascade S  h.1, h.2⟩
  · exact h.elim
def ST.rotate (S : ST) : ST :=
  if S.settings 18 = 0 ∨ S.P.has S.P.vrb = false ∨ S.P.since S.P.vrb.toNatClampNeg < S.settings 18 ∨ S.P.nextRot = -1 then S
  else ((S.start S.P.nextRot (S.P.speeds S.P.vrb.toNatClampNeg)).event 7 S.P.nextRot).stop S.P.vrb
theorem PT.start_size (S : PT) (p v : Int32) : (S.start p v).size = S.size := by
  unfold PT.start
  repeat' (first | rfl | split | dsimp only)
theorem PT.stop_size (S : PT) (p : Int32) : (S.stop p).size = S.size := by
  unfold PT.stop
  repeat' (first | rfl | split | dsimp only)
theorem PT.start_ok (S : PT) (p v : Int32) : (S.start p v).ok = S.ok := by
  unfold PT.ok PT.n
  rw [PT.start_size]
theorem PT.stop_ok (S : PT) (p : Int32) : (S.stop p).ok = S.ok := by
  unfold PT.ok PT.n
  rw [PT.stop_size]
theorem ST_P : (∀ (S : ST) (k p : Int32), (S.event k p).P = S.P) ∧ (∀ (S : ST) (p v : Int32), (S.start p v).P = S.P.start p v) := ⟨fun _ _ _ => rfl, fun _ _ _ => rfl⟩
theorem flX4_224 : fldOk RX4 224 3 6 = true := by decide +kernel
def cod_X4_rotate : List (Nat × Op ST) := [(0, O_aload 0 1), (1, O_getf stW 4 1), (4, O_getf stW 3 9), (7, O_istore 1 1), (8, O_aload 0 1), (9, O_getf stW 4 0), (12, O_int 18 2), (14, O_ald stW 0), (15, O_if_eq 47), (18, O_aload 0 1), (19, O_getf stW 4 1), (22, O_callV 0 2 (fun S : ST => S.P) (fun S u => S.sP u) sp_X3_hasVariable), (25, O_if_eq 47), (28, O_aload 0 1), (29, O_getf stW 4 1), (32, O_getf stW 3 6), (35, O_iload 1 1), (36, O_ald stW 0), (37, O_aload 0 1), (38, O_getf stW 4 0), (41, O_int 18 2), (43, O_ald stW 0), (44, O_icmp_ge 48), (47, O_vret), (48, O_aload 0 1), (49, O_getf stW 4 1), (52, O_callV 0 2 (fun S : ST => S.P) (fun S u => S.sP u) sp_X3_nextInRotation), (55, O_istore 2 1), (56, O_iload 2 1), (57, O_int (-1) 1), (58, O_icmp_ne 62), (61, O_vret), (62, O_aload 0 1), (63, O_iload 2 1), (64, O_aload 0 1), (65, O_getf stW 4 1), (68, O_getf stW 3 4), (71, O_iload 1 1), (72, O_ald stW 0), (73, O_callV 2 0 (fun S => S) (fun _ S' => S') sp_X4_start), (76, O_aload 0 1), (77, O_getf stW 4 4), (80, O_int 7 2), (82, O_aload 0 1), (83, O_getf stW 4 5), (86, O_iload 2 1), (87, O_callV 3 19 (fun S : ST => S.E) (fun S u => S.sE u) sp_X0_add), (90, O_aload 0 1), (91, O_iload 1 1), (92, O_callV 1 0 (fun S => S) (fun _ S' => S') sp_X4_stop), (95, O_pop), (96, O_vret)]
abbrev cut_X4_rotate : List Nat := []
set_option maxRecDepth 100000 in
theorem okc_X4_rotate {E : En} (F : Fx E RX4 cX4_rotate 3 3) (G : Fr E none) : CodOk E stW cod_X4_rotate := by
  unfold CodOk cod_X4_rotate
  refine List.forall_mem_cons.mpr ⟨ok_aload_n F dX4_rotate_0 rfl (by decide), ?_⟩
  refine List.forall_mem_cons.mpr ⟨ok_getf F flX4_26 dX4_rotate_1 (by decide), ?_⟩
  refine List.forall_mem_cons.mpr ⟨ok_getf F flX4_208 dX4_rotate_4 (by decide), ?_⟩
  refine List.forall_mem_cons.mpr ⟨ok_istore_n F dX4_rotate_7 rfl (by decide) (by decide), ?_⟩
  refine List.forall_mem_cons.mpr ⟨ok_aload_n F dX4_rotate_8 rfl (by decide), ?_⟩
  refine List.forall_mem_cons.mpr ⟨ok_getf F flX4_18 dX4_rotate_9 (by decide), ?_⟩
  refine List.forall_mem_cons.mpr ⟨ok_bipush F dX4_rotate_12 (by decide) (by decide), ?_⟩
  refine List.forall_mem_cons.mpr ⟨ok_iald F dX4_rotate_14 (by decide), ?_⟩
  refine List.forall_mem_cons.mpr ⟨ok_if_eq F dX4_rotate_15 (by decide) (by decide) (by decide), ?_⟩
  refine List.forall_mem_cons.mpr ⟨ok_aload_n F dX4_rotate_18 rfl (by decide), ?_⟩
  refine List.forall_mem_cons.mpr ⟨ok_getf F flX4_26 dX4_rotate_19 (by decide), ?_⟩
  refine List.forall_mem_cons.mpr ⟨ok_callV F spok_X3_hasVariable ln_st_P rcv_pW (by decide +kernel) (by decide) dX4_rotate_22 (by decide), ?_⟩
  refine List.forall_mem_cons.mpr ⟨ok_if_eq F dX4_rotate_25 (by decide) (by decide) (by decide), ?_⟩
  refine List.forall_mem_cons.mpr ⟨ok_aload_n F dX4_rotate_28 rfl (by decide), ?_⟩
  refine List.forall_mem_cons.mpr ⟨ok_getf F flX4_26 dX4_rotate_29 (by decide), ?_⟩
  refine List.forall_mem_cons.mpr ⟨ok_getf F flX4_224 dX4_rotate_32 (by decide), ?_⟩
  refine List.forall_mem_cons.mpr ⟨ok_iload_n F dX4_rotate_35 rfl (by decide), ?_⟩
  refine List.forall_mem_cons.mpr ⟨ok_iald F dX4_rotate_36 (by decide), ?_⟩
  refine List.forall_mem_cons.mpr ⟨ok_aload_n F dX4_rotate_37 rfl (by decide), ?_⟩
  refine List.forall_mem_cons.mpr ⟨ok_getf F flX4_18 dX4_rotate_38 (by decide), ?_⟩
  refine List.forall_mem_cons.mpr ⟨ok_bipush F dX4_rotate_41 (by decide) (by decide), ?_⟩
  refine List.forall_mem_cons.mpr ⟨ok_iald F dX4_rotate_43 (by decide), ?_⟩
  refine List.forall_mem_cons.mpr ⟨ok_icmp_ge F dX4_rotate_44 (by decide) (by decide) (by decide), ?_⟩
  refine List.forall_mem_cons.mpr ⟨ok_vret F G dX4_rotate_47 (by decide), ?_⟩
  refine List.forall_mem_cons.mpr ⟨ok_aload_n F dX4_rotate_48 rfl (by decide), ?_⟩
  refine List.forall_mem_cons.mpr ⟨ok_getf F flX4_26 dX4_rotate_49 (by decide), ?_⟩
  refine List.forall_mem_cons.mpr ⟨ok_callV F spok_X3_nextInRotation ln_st_P rcv_pW (by decide +kernel) (by decide) dX4_rotate_52 (by decide), ?_⟩
  refine List.forall_mem_cons.mpr ⟨ok_istore_n F dX4_rotate_55 rfl (by decide) (by decide), ?_⟩
  refine List.forall_mem_cons.mpr ⟨ok_iload_n F dX4_rotate_56 rfl (by decide), ?_⟩
  refine List.forall_mem_cons.mpr ⟨ok_iconst F dX4_rotate_57 (by decide) (by decide), ?_⟩
  refine List.forall_mem_cons.mpr ⟨ok_icmp_ne F dX4_rotate_58 (by decide) (by decide) (by decide), ?_⟩
  refine List.forall_mem_cons.mpr ⟨ok_vret F G dX4_rotate_61 (by decide), ?_⟩
  refine List.forall_mem_cons.mpr ⟨ok_aload_n F dX4_rotate_62 rfl (by decide), ?_⟩
  refine List.forall_mem_cons.mpr ⟨ok_iload_n F dX4_rotate_63 rfl (by decide), ?_⟩
  refine List.forall_mem_cons.mpr ⟨ok_aload_n F dX4_rotate_64 rfl (by decide), ?_⟩
  refine List.forall_mem_cons.mpr ⟨ok_getf F flX4_26 dX4_rotate_65 (by decide), ?_⟩
  refine List.forall_mem_cons.mpr ⟨ok_getf F flX4_205 dX4_rotate_68 (by decide), ?_⟩
  refine List.forall_mem_cons.mpr ⟨ok_iload_n F dX4_rotate_71 rfl (by decide), ?_⟩
  refine List.forall_mem_cons.mpr ⟨ok_iald F dX4_rotate_72 (by decide), ?_⟩
  refine List.forall_mem_cons.mpr ⟨ok_callV F spok_X4_start (ln_id stW) rcv_stW (by decide +kernel) (by decide) dX4_rotate_73 (by decide), ?_⟩
  refine List.forall_mem_cons.mpr ⟨ok_aload_n F dX4_rotate_76 rfl (by decide), ?_⟩
  refine List.forall_mem_cons.mpr ⟨ok_getf F flX4_47 dX4_rotate_77 (by decide), ?_⟩
  refine List.forall_mem_cons.mpr ⟨ok_bipush F dX4_rotate_80 (by decide) (by decide), ?_⟩
  refine List.forall_mem_cons.mpr ⟨ok_aload_n F dX4_rotate_82 rfl (by decide), ?_⟩
  refine List.forall_mem_cons.mpr ⟨ok_getf F flX4_74 dX4_rotate_83 (by decide), ?_⟩
  refine List.forall_mem_cons.mpr ⟨ok_iload_n F dX4_rotate_86 rfl (by decide), ?_⟩
  refine List.forall_mem_cons.mpr ⟨ok_callV F spok_X0_add ln_st_E rcv_eW (by decide +kernel) (by decide) dX4_rotate_87 (by decide), ?_⟩
  refine List.forall_mem_cons.mpr ⟨ok_aload_n F dX4_rotate_90 rfl (by decide), ?_⟩
  refine List.forall_mem_cons.mpr ⟨ok_iload_n F dX4_rotate_91 rfl (by decide), ?_⟩
  refine List.forall_mem_cons.mpr ⟨ok_callV F spok_X4_stop (ln_id stW) rcv_stW (by decide +kernel) (by decide) dX4_rotate_92 (by decide), ?_⟩
  refine List.forall_mem_cons.mpr ⟨ok_pop F dX4_rotate_95 (by decide), ?_⟩
  refine List.forall_mem_cons.mpr ⟨ok_vret F G dX4_rotate_96 (by decide), ?_⟩
  exact fun _ h => absurd h List.not_mem_nil
set_option maxRecDepth 100000 in
theorem w_X4_rotate : (∀ (K : Kt ST) (n : Nat) (L : xL) (st : List Value) (S : ST), nx cod_X4_rotate cut_X4_rotate K (n + 1) 0 L st S = (O_aload 0 1) (nx cod_X4_rotate cut_X4_rotate K n) 0 L st S) ∧
  (∀ (K : Kt ST) (n : Nat) (L : xL) (st : List Value) (S : ST), nx cod_X4_rotate cut_X4_rotate K (n + 1) 1 L st S = (O_getf stW 4 1) (nx cod_X4_rotate cut_X4_rotate K n) 1 L st S) ∧
  (∀ (K : Kt ST) (n : Nat) (L : xL) (st : List Value) (S : ST), nx cod_X4_rotate cut_X4_rotate K (n + 1) 4 L st S = (O_getf stW 3 9) (nx cod_X4_rotate cut_X4_rotate K n) 4 L st S) ∧
  (∀ (K : Kt ST) (n : Nat) (L : xL) (st : List Value) (S : ST), nx cod_X4_rotate cut_X4_rotate K (n + 1) 7 L st S = (O_istore 1 1) (nx cod_X4_rotate cut_X4_rotate K n) 7 L st S) ∧
  (∀ (K : Kt ST) (n : Nat) (L : xL) (st : List Value) (S : ST), nx cod_X4_rotate cut_X4_rotate K (n + 1) 8 L st S = (O_aload 0 1) (nx cod_X4_rotate cut_X4_rotate K n) 8 L st S) ∧
  (∀ (K : Kt ST) (n : Nat) (L : xL) (st : List Value) (S : ST), nx cod_X4_rotate cut_X4_rotate K (n + 1) 9 L st S = (O_getf stW 4 0) (nx cod_X4_rotate cut_X4_rotate K n) 9 L st S) ∧
  (∀ (K : Kt ST) (n : Nat) (L : xL) (st : List Value) (S : ST), nx cod_X4_rotate cut_X4_rotate K (n + 1) 12 L st S = (O_int 18 2) (nx cod_X4_rotate cut_X4_rotate K n) 12 L st S) ∧
  (∀ (K : Kt ST) (n : Nat) (L : xL) (st : List Value) (S : ST), nx cod_X4_rotate cut_X4_rotate K (n + 1) 14 L st S = (O_ald stW 0) (nx cod_X4_rotate cut_X4_rotate K n) 14 L st S) ∧
  (∀ (K : Kt ST) (n : Nat) (L : xL) (st : List Value) (S : ST), nx cod_X4_rotate cut_X4_rotate K (n + 1) 15 L st S = (O_if_eq 47) (nx cod_X4_rotate cut_X4_rotate K n) 15 L st S) ∧
  (∀ (K : Kt ST) (n : Nat) (L : xL) (st : List Value) (S : ST), nx cod_X4_rotate cut_X4_rotate K (n + 1) 18 L st S = (O_aload 0 1) (nx cod_X4_rotate cut_X4_rotate K n) 18 L st S) ∧
  (∀ (K : Kt ST) (n : Nat) (L : xL) (st : List Value) (S : ST), nx cod_X4_rotate cut_X4_rotate K (n + 1) 19 L st S = (O_getf stW 4 1) (nx cod_X4_rotate cut_X4_rotate K n) 19 L st S) ∧
  (∀ (K : Kt ST) (n : Nat) (L : xL) (st : List Value) (S : ST), nx cod_X4_rotate cut_X4_rotate K (n + 1) 22 L st S = (O_callV 0 2 (fun S : ST => S.P) (fun S u => S.sP u) sp_X3_hasVariable) (nx cod_X4_rotate cut_X4_rotate K n) 22 L st S) ∧
  (∀ (K : Kt ST) (n : Nat) (L : xL) (st : List Value) (S : ST), nx cod_X4_rotate cut_X4_rotate K (n + 1) 25 L st S = (O_if_eq 47) (nx cod_X4_rotate cut_X4_rotate K n) 25 L st S) ∧
  (∀ (K : Kt ST) (n : Nat) (L : xL) (st : List Value) (S : ST), nx cod_X4_rotate cut_X4_rotate K (n + 1) 28 L st S = (O_aload 0 1) (nx cod_X4_rotate cut_X4_rotate K n) 28 L st S) ∧
  (∀ (K : Kt ST) (n : Nat) (L : xL) (st : List Value) (S : ST), nx cod_X4_rotate cut_X4_rotate K (n + 1) 29 L st S = (O_getf stW 4 1) (nx cod_X4_rotate cut_X4_rotate K n) 29 L st S) ∧
  (∀ (K : Kt ST) (n : Nat) (L : xL) (st : List Value) (S : ST), nx cod_X4_rotate cut_X4_rotate K (n + 1) 32 L st S = (O_getf stW 3 6) (nx cod_X4_rotate cut_X4_rotate K n) 32 L st S) ∧
  (∀ (K : Kt ST) (n : Nat) (L : xL) (st : List Value) (S : ST), nx cod_X4_rotate cut_X4_rotate K (n + 1) 35 L st S = (O_iload 1 1) (nx cod_X4_rotate cut_X4_rotate K n) 35 L st S) ∧
  (∀ (K : Kt ST) (n : Nat) (L : xL) (st : List Value) (S : ST), nx cod_X4_rotate cut_X4_rotate K (n + 1) 36 L st S = (O_ald stW 0) (nx cod_X4_rotate cut_X4_rotate K n) 36 L st S) ∧
  (∀ (K : Kt ST) (n : Nat) (L : xL) (st : List Value) (S : ST), nx cod_X4_rotate cut_X4_rotate K (n + 1) 37 L st S = (O_aload 0 1) (nx cod_X4_rotate cut_X4_rotate K n) 37 L st S) ∧
  (∀ (K : Kt ST) (n : Nat) (L : xL) (st : List Value) (S : ST), nx cod_X4_rotate cut_X4_rotate K (n + 1) 38 L st S = (O_getf stW 4 0) (nx cod_X4_rotate cut_X4_rotate K n) 38 L st S) ∧
  (∀ (K : Kt ST) (n : Nat) (L : xL) (st : List Value) (S : ST), nx cod_X4_rotate cut_X4_rotate K (n + 1) 41 L st S = (O_int 18 2) (nx cod_X4_rotate cut_X4_rotate K n) 41 L st S) ∧
  (∀ (K : Kt ST) (n : Nat) (L : xL) (st : List Value) (S : ST), nx cod_X4_rotate cut_X4_rotate K (n + 1) 43 L st S = (O_ald stW 0) (nx cod_X4_rotate cut_X4_rotate K n) 43 L st S) ∧
  (∀ (K : Kt ST) (n : Nat) (L : xL) (st : List Value) (S : ST), nx cod_X4_rotate cut_X4_rotate K (n + 1) 44 L st S = (O_icmp_ge 48) (nx cod_X4_rotate cut_X4_rotate K n) 44 L st S) ∧
  (∀ (K : Kt ST) (n : Nat) (L : xL) (st : List Value) (S : ST), nx cod_X4_rotate cut_X4_rotate K (n + 1) 47 L st S = (O_vret) (nx cod_X4_rotate cut_X4_rotate K n) 47 L st S) ∧
  (∀ (K : Kt ST) (n : Nat) (L : xL) (st : List Value) (S : ST), nx cod_X4_rotate cut_X4_rotate K (n + 1) 48 L st S = (O_aload 0 1) (nx cod_X4_rotate cut_X4_rotate K n) 48 L st S) ∧
  (∀ (K : Kt ST) (n : Nat) (L : xL) (st : List Value) (S : ST), nx cod_X4_rotate cut_X4_rotate K (n + 1) 49 L st S = (O_getf stW 4 1) (nx cod_X4_rotate cut_X4_rotate K n) 49 L st S) ∧
  (∀ (K : Kt ST) (n : Nat) (L : xL) (st : List Value) (S : ST), nx cod_X4_rotate cut_X4_rotate K (n + 1) 52 L st S = (O_callV 0 2 (fun S : ST => S.P) (fun S u => S.sP u) sp_X3_nextInRotation) (nx cod_X4_rotate cut_X4_rotate K n) 52 L st S) ∧
  (∀ (K : Kt ST) (n : Nat) (L : xL) (st : List Value) (S : ST), nx cod_X4_rotate cut_X4_rotate K (n + 1) 55 L st S = (O_istore 2 1) (nx cod_X4_rotate cut_X4_rotate K n) 55 L st S) ∧
  (∀ (K : Kt ST) (n : Nat) (L : xL) (st : List Value) (S : ST), nx cod_X4_rotate cut_X4_rotate K (n + 1) 56 L st S = (O_iload 2 1) (nx cod_X4_rotate cut_X4_rotate K n) 56 L st S) ∧
  (∀ (K : Kt ST) (n : Nat) (L : xL) (st : List Value) (S : ST), nx cod_X4_rotate cut_X4_rotate K (n + 1) 57 L st S = (O_int (-1) 1) (nx cod_X4_rotate cut_X4_rotate K n) 57 L st S) ∧
  (∀ (K : Kt ST) (n : Nat) (L : xL) (st : List Value) (S : ST), nx cod_X4_rotate cut_X4_rotate K (n + 1) 58 L st S = (O_icmp_ne 62) (nx cod_X4_rotate cut_X4_rotate K n) 58 L st S) ∧
  (∀ (K : Kt ST) (n : Nat) (L : xL) (st : List Value) (S : ST), nx cod_X4_rotate cut_X4_rotate K (n + 1) 61 L st S = (O_vret) (nx cod_X4_rotate cut_X4_rotate K n) 61 L st S) ∧
  (∀ (K : Kt ST) (n : Nat) (L : xL) (st : List Value) (S : ST), nx cod_X4_rotate cut_X4_rotate K (n + 1) 62 L st S = (O_aload 0 1) (nx cod_X4_rotate cut_X4_rotate K n) 62 L st S) ∧
  (∀ (K : Kt ST) (n : Nat) (L : xL) (st : List Value) (S : ST), nx cod_X4_rotate cut_X4_rotate K (n + 1) 63 L st S = (O_iload 2 1) (nx cod_X4_rotate cut_X4_rotate K n) 63 L st S) ∧
  (∀ (K : Kt ST) (n : Nat) (L : xL) (st : List Value) (S : ST), nx cod_X4_rotate cut_X4_rotate K (n + 1) 64 L st S = (O_aload 0 1) (nx cod_X4_rotate cut_X4_rotate K n) 64 L st S) ∧
  (∀ (K : Kt ST) (n : Nat) (L : xL) (st : List Value) (S : ST), nx cod_X4_rotate cut_X4_rotate K (n + 1) 65 L st S = (O_getf stW 4 1) (nx cod_X4_rotate cut_X4_rotate K n) 65 L st S) ∧
  (∀ (K : Kt ST) (n : Nat) (L : xL) (st : List Value) (S : ST), nx cod_X4_rotate cut_X4_rotate K (n + 1) 68 L st S = (O_getf stW 3 4) (nx cod_X4_rotate cut_X4_rotate K n) 68 L st S) ∧
  (∀ (K : Kt ST) (n : Nat) (L : xL) (st : List Value) (S : ST), nx cod_X4_rotate cut_X4_rotate K (n + 1) 71 L st S = (O_iload 1 1) (nx cod_X4_rotate cut_X4_rotate K n) 71 L st S) ∧
  (∀ (K : Kt ST) (n : Nat) (L : xL) (st : List Value) (S : ST), nx cod_X4_rotate cut_X4_rotate K (n + 1) 72 L st S = (O_ald stW 0) (nx cod_X4_rotate cut_X4_rotate K n) 72 L st S) ∧
  (∀ (K : Kt ST) (n : Nat) (L : xL) (st : List Value) (S : ST), nx cod_X4_rotate cut_X4_rotate K (n + 1) 73 L st S = (O_callV 2 0 (fun S => S) (fun _ S' => S') sp_X4_start) (nx cod_X4_rotate cut_X4_rotate K n) 73 L st S) ∧
  (∀ (K : Kt ST) (n : Nat) (L : xL) (st : List Value) (S : ST), nx cod_X4_rotate cut_X4_rotate K (n + 1) 76 L st S = (O_aload 0 1) (nx cod_X4_rotate cut_X4_rotate K n) 76 L st S) ∧
  (∀ (K : Kt ST) (n : Nat) (L : xL) (st : List Value) (S : ST), nx cod_X4_rotate cut_X4_rotate K (n + 1) 77 L st S = (O_getf stW 4 4) (nx cod_X4_rotate cut_X4_rotate K n) 77 L st S) ∧
  (∀ (K : Kt ST) (n : Nat) (L : xL) (st : List Value) (S : ST), nx cod_X4_rotate cut_X4_rotate K (n + 1) 80 L st S = (O_int 7 2) (nx cod_X4_rotate cut_X4_rotate K n) 80 L st S) ∧
  (∀ (K : Kt ST) (n : Nat) (L : xL) (st : List Value) (S : ST), nx cod_X4_rotate cut_X4_rotate K (n + 1) 82 L st S = (O_aload 0 1) (nx cod_X4_rotate cut_X4_rotate K n) 82 L st S) ∧
  (∀ (K : Kt ST) (n : Nat) (L : xL) (st : List Value) (S : ST), nx cod_X4_rotate cut_X4_rotate K (n + 1) 83 L st S = (O_getf stW 4 5) (nx cod_X4_rotate cut_X4_rotate K n) 83 L st S) ∧
  (∀ (K : Kt ST) (n : Nat) (L : xL) (st : List Value) (S : ST), nx cod_X4_rotate cut_X4_rotate K (n + 1) 86 L st S = (O_iload 2 1) (nx cod_X4_rotate cut_X4_rotate K n) 86 L st S) ∧
  (∀ (K : Kt ST) (n : Nat) (L : xL) (st : List Value) (S : ST), nx cod_X4_rotate cut_X4_rotate K (n + 1) 87 L st S = (O_callV 3 19 (fun S : ST => S.E) (fun S u => S.sE u) sp_X0_add) (nx cod_X4_rotate cut_X4_rotate K n) 87 L st S) ∧
  (∀ (K : Kt ST) (n : Nat) (L : xL) (st : List Value) (S : ST), nx cod_X4_rotate cut_X4_rotate K (n + 1) 90 L st S = (O_aload 0 1) (nx cod_X4_rotate cut_X4_rotate K n) 90 L st S) ∧
  (∀ (K : Kt ST) (n : Nat) (L : xL) (st : List Value) (S : ST), nx cod_X4_rotate cut_X4_rotate K (n + 1) 91 L st S = (O_iload 1 1) (nx cod_X4_rotate cut_X4_rotate K n) 91 L st S) ∧
  (∀ (K : Kt ST) (n : Nat) (L : xL) (st : List Value) (S : ST), nx cod_X4_rotate cut_X4_rotate K (n + 1) 92 L st S = (O_callV 1 0 (fun S => S) (fun _ S' => S') sp_X4_stop) (nx cod_X4_rotate cut_X4_rotate K n) 92 L st S) ∧
  (∀ (K : Kt ST) (n : Nat) (L : xL) (st : List Value) (S : ST), nx cod_X4_rotate cut_X4_rotate K (n + 1) 95 L st S = (O_pop) (nx cod_X4_rotate cut_X4_rotate K n) 95 L st S) ∧
  (∀ (K : Kt ST) (n : Nat) (L : xL) (st : List Value) (S : ST), nx cod_X4_rotate cut_X4_rotate K (n + 1) 96 L st S = (O_vret) (nx cod_X4_rotate cut_X4_rotate K n) 96 L st S) ∧
  (∀ (K : Kt ST) (n : Nat) (L : xL) (st : List Value) (S : ST), nx cod_X4_rotate cut_X4_rotate K (n + 1) 100000 L st S = K 100000 L st S) := by
  repeat' apply And.intro
  all_goals (intros; rfl)
set_option maxRecDepth 100000 in
theorem mk_X4_rotate {P P' : ST} {r : Option Value}  (body : ∀ E : En, CodOk E stW cod_X4_rotate → Gd E stW 100000 [] r.toList P' → Gd E stW 0 [some (.ref 0), none, none] [] P) : Con yX4_rotate cX4_rotate 3 none 3 stW [.ref 0] P r P' :=
  Con.of (by decide) rfl rfl (Nat.le_of_ble_eq_true rfl) (fun E F G hr => body E (okc_X4_rotate F G) hr)
theorem con_X4_rotate (S : ST)  (hp : S.P.ok) : Con yX4_rotate cX4_rotate 3 none 3 stW [.ref 0] S (none) (S.rotate) := by
  refine mk_X4_rotate (fun E C hr => ?_)
  have hv := PT.has_in (p := S.P.vrb) hp
  (refine nx_ok C (cuts := cut_X4_rotate) 1000 _ _ _ _ ?_; simp only [w_X4_rotate, ops_eq, xst_eq, call_eq, oK_eq, Option.toList_some, Option.toList_none, List.cons_append, List.nil_append, List.length_cons, List.length_nil, true_and, and_true, Nat.reduceAdd, stW_F, stW_A, stW_S, stW_P, ST_id, ST_gs, PT_gs, ZT_gs, NT_gs, ET_gs, se_X3_hasVariable, se_X3_nextInRotation, se_X4_start, se_X0_add, se_X4_stop, v19_eq, v8_eq, cl_eq, bI_eq, ST_P, PT.start_ok])
  ((repeat' (with_reducible first | apply And.intro | intro _)) <;> simp_all [ST.rotate, ST.event, ST_id, ST_gs, PT_gs, ZT_gs, NT_gs, ET_gs])
def sp_X4_rotate : Sp ST := fun av S K => match av with
  | [.ref 0] => (S.P.ok) ∧ K (none) (S.rotate)
  | _ => False
theorem se_X4_rotate  (S : ST) (K : Option Value → ST → Prop) : sp_X4_rotate [.ref 0] S K = ((S.P.ok) ∧ K (none) (S.rotate)) := rfl
theorem spok_X4_rotate : SpOk yX4_rotate cX4_rotate 3 none 3 stW sp_X4_rotate := by
  intro av S K h
  unfold sp_X4_rotate at h
  split at h
  · exact ⟨none, S.rotate, trivial, con_X4_rotate S  h.1, h.2⟩
  · exact h.elim
def ST.stopAll (S : ST) : ST := it (fun p T => T.stop (nI p)) S S.P.n
theorem ST.stop_size (S : ST) (p : Int32) : (S.stop p).P.size = S.P.size := by
  unfold ST.stop
  split
  · exact PT.stop_size _ _
  · rfl
theorem ST.stopAll_size (S : ST) : S.stopAll.P.size = S.P.size := it_inv (fun _ (T : ST) => T.P.size = S.P.size) rfl (fun i T hi h => (ST.stop_size T _).trans h)
def ST.level1 (S : ST) : ST := S.sDryMinutes (if S.level < S.settings 11 then S.dryMinutes + 1 else 0)
def ST.level2 (S : ST) : ST := if S.dry = 0 ∧ ¬ S.dryMinutes < S.settings 13 then ((S.stopAll.sDry 1).sTrips (S.stopAll.trips + 1)).event 4 (-1) else S
def ST.level3 (S : ST) : ST := if S.trips < 3 then S.goOn else S
def ST.watchL (S : ST) : ST := S.level1.level2.level3
theorem flX4_93 : fldOk RX4 93 4 12 = true := by decide +kernel
theorem flX4_179 : fldOk RX4 179 3 8 = true := by decide +kernel
def cod_X4_watchLevel : List (Nat × Op ST) := [(0, O_aload 0 1), (1, O_aload 0 1), (2, O_getf stW 4 7), (5, O_aload 0 1), (6, O_getf stW 4 0), (9, O_int 11 2), (11, O_ald stW 0), (12, O_icmp_ge 24), (15, O_aload 0 1), (16, O_getf stW 4 12), (19, O_int 1 1), (20, O_iadd), (21, O_goto 25), (24, O_int 0 1), (25, O_puti stW_p4_12), (28, O_aload 0 1), (29, O_getf stW 4 11), (32, O_if_ne 102), (35, O_aload 0 1), (36, O_getf stW 4 12), (39, O_aload 0 1), (40, O_getf stW 4 0), (43, O_int 13 2), (45, O_ald stW 0), (46, O_icmp_lt 102), (49, O_int 0 1), (50, O_istore 1 1), (51, O_iload 1 1), (52, O_aload 0 1), (53, O_getf stW 4 1), (56, O_getf stW 3 8), (59, O_icmp_ge 74), (62, O_aload 0 1), (63, O_iload 1 1), (64, O_callV 1 0 (fun S => S) (fun _ S' => S') sp_X4_stop), (67, O_pop), (68, O_iinc 1 1), (71, O_goto 51), (74, O_aload 0 1), (75, O_int 1 1), (76, O_putn .boolean stW_p4_11), (79, O_aload 0 1), (80, O_dup), (81, O_getf stW 4 13), (84, O_int 1 1), (85, O_iadd), (86, O_puti stW_p4_13), (89, O_aload 0 1), (90, O_getf stW 4 4), (93, O_int 4 1), (94, O_aload 0 1), (95, O_getf stW 4 5), (98, O_int (-1) 1), (99, O_callV 3 19 (fun S : ST => S.E) (fun S u => S.sE u) sp_X0_add), (102, O_aload 0 1), (103, O_getf stW 4 13), (106, O_int 3 1), (107, O_icmp_ge 114), (110, O_aload 0 1), (111, O_callV 0 0 (fun S => S) (fun _ S' => S') sp_X4_goOnIfFilled), (114, O_vret)]
abbrev cut_X4_watchLevel : List Nat := [28, 51, 102]
set_option maxRecDepth 100000 in
theorem okc_X4_watchLevel {E : En} (F : Fx E RX4 cX4_watchLevel 2 3) (G : Fr E none) : CodOk E stW cod_X4_watchLevel := by
  unfold CodOk cod_X4_watchLevel
  refine List.forall_mem_cons.mpr ⟨ok_aload_n F dX4_watchLevel_0 rfl (by decide), ?_⟩
  refine List.forall_mem_cons.mpr ⟨ok_aload_n F dX4_watchLevel_1 rfl (by decide), ?_⟩
  refine List.forall_mem_cons.mpr ⟨ok_getf F flX4_51 dX4_watchLevel_2 (by decide), ?_⟩
  refine List.forall_mem_cons.mpr ⟨ok_aload_n F dX4_watchLevel_5 rfl (by decide), ?_⟩
  refine List.forall_mem_cons.mpr ⟨ok_getf F flX4_18 dX4_watchLevel_6 (by decide), ?_⟩
  refine List.forall_mem_cons.mpr ⟨ok_bipush F dX4_watchLevel_9 (by decide) (by decide), ?_⟩
  refine List.forall_mem_cons.mpr ⟨ok_iald F dX4_watchLevel_11 (by decide), ?_⟩
  refine List.forall_mem_cons.mpr ⟨ok_icmp_ge F dX4_watchLevel_12 (by decide) (by decide) (by decide), ?_⟩
  refine List.forall_mem_cons.mpr ⟨ok_aload_n F dX4_watchLevel_15 rfl (by decide), ?_⟩
  refine List.forall_mem_cons.mpr ⟨ok_getf F flX4_93 dX4_watchLevel_16 (by decide), ?_⟩
  refine List.forall_mem_cons.mpr ⟨ok_iconst F dX4_watchLevel_19 (by decide) (by decide), ?_⟩
  refine List.forall_mem_cons.mpr ⟨ok_iadd F dX4_watchLevel_20 (by decide), ?_⟩
  refine List.forall_mem_cons.mpr ⟨ok_goto F dX4_watchLevel_21 (by decide) (by decide) (by decide), ?_⟩
  refine List.forall_mem_cons.mpr ⟨ok_iconst F dX4_watchLevel_24 (by decide) (by decide), ?_⟩
  refine List.forall_mem_cons.mpr ⟨ok_puti F stW_p4_12_ok (fun _ _ _ h => by cases h; rfl) rfl flX4_93 dX4_watchLevel_25 (by decide), ?_⟩
  refine List.forall_mem_cons.mpr ⟨ok_aload_n F dX4_watchLevel_28 rfl (by decide), ?_⟩
  refine List.forall_mem_cons.mpr ⟨ok_getf F flX4_89 dX4_watchLevel_29 (by decide), ?_⟩
  refine List.forall_mem_cons.mpr ⟨ok_if_ne F dX4_watchLevel_32 (by decide) (by decide) (by decide), ?_⟩
  refine List.forall_mem_cons.mpr ⟨ok_aload_n F dX4_watchLevel_35 rfl (by decide), ?_⟩
  refine List.forall_mem_cons.mpr ⟨ok_getf F flX4_93 dX4_watchLevel_36 (by decide), ?_⟩
  refine List.forall_mem_cons.mpr ⟨ok_aload_n F dX4_watchLevel_39 rfl (by decide), ?_⟩
  refine List.forall_mem_cons.mpr ⟨ok_getf F flX4_18 dX4_watchLevel_40 (by decide), ?_⟩
  refine List.forall_mem_cons.mpr ⟨ok_bipush F dX4_watchLevel_43 (by decide) (by decide), ?_⟩
  refine List.forall_mem_cons.mpr ⟨ok_iald F dX4_watchLevel_45 (by decide), ?_⟩
  refine List.forall_mem_cons.mpr ⟨ok_icmp_lt F dX4_watchLevel_46 (by decide) (by decide) (by decide), ?_⟩
  refine List.forall_mem_cons.mpr ⟨ok_iconst F dX4_watchLevel_49 (by decide) (by decide), ?_⟩
  refine List.forall_mem_cons.mpr ⟨ok_istore_n F dX4_watchLevel_50 rfl (by decide) (by decide), ?_⟩
  refine List.forall_mem_cons.mpr ⟨ok_iload_n F dX4_watchLevel_51 rfl (by decide), ?_⟩
  refine List.forall_mem_cons.mpr ⟨ok_aload_n F dX4_watchLevel_52 rfl (by decide), ?_⟩
  refine List.forall_mem_cons.mpr ⟨ok_getf F flX4_26 dX4_watchLevel_53 (by decide), ?_⟩
  refine List.forall_mem_cons.mpr ⟨ok_getf F flX4_179 dX4_watchLevel_56 (by decide), ?_⟩
  refine List.forall_mem_cons.mpr ⟨ok_icmp_ge F dX4_watchLevel_59 (by decide) (by decide) (by decide), ?_⟩
  refine List.forall_mem_cons.mpr ⟨ok_aload_n F dX4_watchLevel_62 rfl (by decide), ?_⟩
  refine List.forall_mem_cons.mpr ⟨ok_iload_n F dX4_watchLevel_63 rfl (by decide), ?_⟩
  refine List.forall_mem_cons.mpr ⟨ok_callV F spok_X4_stop (ln_id stW) rcv_stW (by decide +kernel) (by decide) dX4_watchLevel_64 (by decide), ?_⟩
  refine List.forall_mem_cons.mpr ⟨ok_pop F dX4_watchLevel_67 (by decide), ?_⟩
  refine List.forall_mem_cons.mpr ⟨ok_iinc F dX4_watchLevel_68 (by decide) (by decide) (by decide), ?_⟩
  refine List.forall_mem_cons.mpr ⟨ok_goto F dX4_watchLevel_71 (by decide) (by decide) (by decide), ?_⟩
  refine List.forall_mem_cons.mpr ⟨ok_aload_n F dX4_watchLevel_74 rfl (by decide), ?_⟩
  refine List.forall_mem_cons.mpr ⟨ok_iconst F dX4_watchLevel_75 (by decide) (by decide), ?_⟩
  refine List.forall_mem_cons.mpr ⟨ok_putn F stW_p4_11_ok (fun _ _ _ h => by cases h; rfl) rfl flX4_89 dX4_watchLevel_76 (by decide), ?_⟩
  refine List.forall_mem_cons.mpr ⟨ok_aload_n F dX4_watchLevel_79 rfl (by decide), ?_⟩
  refine List.forall_mem_cons.mpr ⟨ok_dup F dX4_watchLevel_80 (by decide), ?_⟩
  refine List.forall_mem_cons.mpr ⟨ok_getf F flX4_96 dX4_watchLevel_81 (by decide), ?_⟩
  refine List.forall_mem_cons.mpr ⟨ok_iconst F dX4_watchLevel_84 (by decide) (by decide), ?_⟩
  refine List.forall_mem_cons.mpr ⟨ok_iadd F dX4_watchLevel_85 (by decide), ?_⟩
  refine List.forall_mem_cons.mpr ⟨ok_puti F stW_p4_13_ok (fun _ _ _ h => by cases h; rfl) rfl flX4_96 dX4_watchLevel_86 (by decide), ?_⟩
  refine List.forall_mem_cons.mpr ⟨ok_aload_n F dX4_watchLevel_89 rfl (by decide), ?_⟩
  refine List.forall_mem_cons.mpr ⟨ok_getf F flX4_47 dX4_watchLevel_90 (by decide), ?_⟩
  refine List.forall_mem_cons.mpr ⟨ok_iconst F dX4_watchLevel_93 (by decide) (by decide), ?_⟩
  refine List.forall_mem_cons.mpr ⟨ok_aload_n F dX4_watchLevel_94 rfl (by decide), ?_⟩
  refine List.forall_mem_cons.mpr ⟨ok_getf F flX4_74 dX4_watchLevel_95 (by decide), ?_⟩
  refine List.forall_mem_cons.mpr ⟨ok_iconst F dX4_watchLevel_98 (by decide) (by decide), ?_⟩
  refine List.forall_mem_cons.mpr ⟨ok_callV F spok_X0_add ln_st_E rcv_eW (by decide +kernel) (by decide) dX4_watchLevel_99 (by decide), ?_⟩
  refine List.forall_mem_cons.mpr ⟨ok_aload_n F dX4_watchLevel_102 rfl (by decide), ?_⟩
  refine List.forall_mem_cons.mpr ⟨ok_getf F flX4_96 dX4_watchLevel_103 (by decide), ?_⟩
  refine List.forall_mem_cons.mpr ⟨ok_iconst F dX4_watchLevel_106 (by decide) (by decide), ?_⟩
  refine List.forall_mem_cons.mpr ⟨ok_icmp_ge F dX4_watchLevel_107 (by decide) (by decide) (by decide), ?_⟩
  refine List.forall_mem_cons.mpr ⟨ok_aload_n F dX4_watchLevel_110 rfl (by decide), ?_⟩
  refine List.forall_mem_cons.mpr ⟨ok_callV F spok_X4_goOnIfFilled (ln_id stW) rcv_stW (by decide +kernel) (by decide) dX4_watchLevel_111 (by decide), ?_⟩
  refine List.forall_mem_cons.mpr ⟨ok_vret F G dX4_watchLevel_114 (by decide), ?_⟩
  exact fun _ h => absurd h List.not_mem_nil
set_option maxRecDepth 100000 in
theorem w_X4_watchLevel : (∀ (K : Kt ST) (n : Nat) (L : xL) (st : List Value) (S : ST), nx cod_X4_watchLevel cut_X4_watchLevel K (n + 1) 0 L st S = (O_aload 0 1) (nx cod_X4_watchLevel cut_X4_watchLevel K n) 0 L st S) ∧
  (∀ (K : Kt ST) (n : Nat) (L : xL) (st : List Value) (S : ST), nx cod_X4_watchLevel cut_X4_watchLevel K (n + 1) 1 L st S = (O_aload 0 1) (nx cod_X4_watchLevel cut_X4_watchLevel K n) 1 L st S) ∧
  (∀ (K : Kt ST) (n : Nat) (L : xL) (st : List Value) (S : ST), nx cod_X4_watchLevel cut_X4_watchLevel K (n + 1) 2 L st S = (O_getf stW 4 7) (nx cod_X4_watchLevel cut_X4_watchLevel K n) 2 L st S) ∧
  (∀ (K : Kt ST) (n : Nat) (L : xL) (st : List Value) (S : ST), nx cod_X4_watchLevel cut_X4_watchLevel K (n + 1) 5 L st S = (O_aload 0 1) (nx cod_X4_watchLevel cut_X4_watchLevel K n) 5 L st S) ∧
  (∀ (K : Kt ST) (n : Nat) (L : xL) (st : List Value) (S : ST), nx cod_X4_watchLevel cut_X4_watchLevel K (n + 1) 6 L st S = (O_getf stW 4 0) (nx cod_X4_watchLevel cut_X4_watchLevel K n) 6 L st S) ∧
  (∀ (K : Kt ST) (n : Nat) (L : xL) (st : List Value) (S : ST), nx cod_X4_watchLevel cut_X4_watchLevel K (n + 1) 9 L st S = (O_int 11 2) (nx cod_X4_watchLevel cut_X4_watchLevel K n) 9 L st S) ∧
  (∀ (K : Kt ST) (n : Nat) (L : xL) (st : List Value) (S : ST), nx cod_X4_watchLevel cut_X4_watchLevel K (n + 1) 11 L st S = (O_ald stW 0) (nx cod_X4_watchLevel cut_X4_watchLevel K n) 11 L st S) ∧
  (∀ (K : Kt ST) (n : Nat) (L : xL) (st : List Value) (S : ST), nx cod_X4_watchLevel cut_X4_watchLevel K (n + 1) 12 L st S = (O_icmp_ge 24) (nx cod_X4_watchLevel cut_X4_watchLevel K n) 12 L st S) ∧
  (∀ (K : Kt ST) (n : Nat) (L : xL) (st : List Value) (S : ST), nx cod_X4_watchLevel cut_X4_watchLevel K (n + 1) 15 L st S = (O_aload 0 1) (nx cod_X4_watchLevel cut_X4_watchLevel K n) 15 L st S) ∧
  (∀ (K : Kt ST) (n : Nat) (L : xL) (st : List Value) (S : ST), nx cod_X4_watchLevel cut_X4_watchLevel K (n + 1) 16 L st S = (O_getf stW 4 12) (nx cod_X4_watchLevel cut_X4_watchLevel K n) 16 L st S) ∧
  (∀ (K : Kt ST) (n : Nat) (L : xL) (st : List Value) (S : ST), nx cod_X4_watchLevel cut_X4_watchLevel K (n + 1) 19 L st S = (O_int 1 1) (nx cod_X4_watchLevel cut_X4_watchLevel K n) 19 L st S) ∧
  (∀ (K : Kt ST) (n : Nat) (L : xL) (st : List Value) (S : ST), nx cod_X4_watchLevel cut_X4_watchLevel K (n + 1) 20 L st S = (O_iadd) (nx cod_X4_watchLevel cut_X4_watchLevel K n) 20 L st S) ∧
  (∀ (K : Kt ST) (n : Nat) (L : xL) (st : List Value) (S : ST), nx cod_X4_watchLevel cut_X4_watchLevel K (n + 1) 21 L st S = (O_goto 25) (nx cod_X4_watchLevel cut_X4_watchLevel K n) 21 L st S) ∧
  (∀ (K : Kt ST) (n : Nat) (L : xL) (st : List Value) (S : ST), nx cod_X4_watchLevel cut_X4_watchLevel K (n + 1) 24 L st S = (O_int 0 1) (nx cod_X4_watchLevel cut_X4_watchLevel K n) 24 L st S) ∧
  (∀ (K : Kt ST) (n : Nat) (L : xL) (st : List Value) (S : ST), nx cod_X4_watchLevel cut_X4_watchLevel K (n + 1) 25 L st S = (O_puti stW_p4_12) (nx cod_X4_watchLevel cut_X4_watchLevel K n) 25 L st S) ∧
  (∀ (K : Kt ST) (n : Nat) (L : xL) (st : List Value) (S : ST), nx cod_X4_watchLevel cut_X4_watchLevel K (n + 1) 28 L st S = K 28 L st S) ∧
  (∀ (K : Kt ST) (n : Nat) (L : xL) (st : List Value) (S : ST), nx1 cod_X4_watchLevel cut_X4_watchLevel K n 28 L st S = (O_aload 0 1) (nx cod_X4_watchLevel cut_X4_watchLevel K n) 28 L st S) ∧
  (∀ (K : Kt ST) (n : Nat) (L : xL) (st : List Value) (S : ST), nx cod_X4_watchLevel cut_X4_watchLevel K (n + 1) 29 L st S = (O_getf stW 4 11) (nx cod_X4_watchLevel cut_X4_watchLevel K n) 29 L st S) ∧
  (∀ (K : Kt ST) (n : Nat) (L : xL) (st : List Value) (S : ST), nx cod_X4_watchLevel cut_X4_watchLevel K (n + 1) 32 L st S = (O_if_ne 102) (nx cod_X4_watchLevel cut_X4_watchLevel K n) 32 L st S) ∧
  (∀ (K : Kt ST) (n : Nat) (L : xL) (st : List Value) (S : ST), nx cod_X4_watchLevel cut_X4_watchLevel K (n + 1) 35 L st S = (O_aload 0 1) (nx cod_X4_watchLevel cut_X4_watchLevel K n) 35 L st S) ∧
  (∀ (K : Kt ST) (n : Nat) (L : xL) (st : List Value) (S : ST), nx cod_X4_watchLevel cut_X4_watchLevel K (n + 1) 36 L st S = (O_getf stW 4 12) (nx cod_X4_watchLevel cut_X4_watchLevel K n) 36 L st S) ∧
  (∀ (K : Kt ST) (n : Nat) (L : xL) (st : List Value) (S : ST), nx cod_X4_watchLevel cut_X4_watchLevel K (n + 1) 39 L st S = (O_aload 0 1) (nx cod_X4_watchLevel cut_X4_watchLevel K n) 39 L st S) ∧
  (∀ (K : Kt ST) (n : Nat) (L : xL) (st : List Value) (S : ST), nx cod_X4_watchLevel cut_X4_watchLevel K (n + 1) 40 L st S = (O_getf stW 4 0) (nx cod_X4_watchLevel cut_X4_watchLevel K n) 40 L st S) ∧
  (∀ (K : Kt ST) (n : Nat) (L : xL) (st : List Value) (S : ST), nx cod_X4_watchLevel cut_X4_watchLevel K (n + 1) 43 L st S = (O_int 13 2) (nx cod_X4_watchLevel cut_X4_watchLevel K n) 43 L st S) ∧
  (∀ (K : Kt ST) (n : Nat) (L : xL) (st : List Value) (S : ST), nx cod_X4_watchLevel cut_X4_watchLevel K (n + 1) 45 L st S = (O_ald stW 0) (nx cod_X4_watchLevel cut_X4_watchLevel K n) 45 L st S) ∧
  (∀ (K : Kt ST) (n : Nat) (L : xL) (st : List Value) (S : ST), nx cod_X4_watchLevel cut_X4_watchLevel K (n + 1) 46 L st S = (O_icmp_lt 102) (nx cod_X4_watchLevel cut_X4_watchLevel K n) 46 L st S) ∧
  (∀ (K : Kt ST) (n : Nat) (L : xL) (st : List Value) (S : ST), nx cod_X4_watchLevel cut_X4_watchLevel K (n + 1) 49 L st S = (O_int 0 1) (nx cod_X4_watchLevel cut_X4_watchLevel K n) 49 L st S) ∧
  (∀ (K : Kt ST) (n : Nat) (L : xL) (st : List Value) (S : ST), nx cod_X4_watchLevel cut_X4_watchLevel K (n + 1) 50 L st S = (O_istore 1 1) (nx cod_X4_watchLevel cut_X4_watchLevel K n) 50 L st S) ∧
  (∀ (K : Kt ST) (n : Nat) (L : xL) (st : List Value) (S : ST), nx cod_X4_watchLevel cut_X4_watchLevel K (n + 1) 51 L st S = K 51 L st S) ∧
  (∀ (K : Kt ST) (n : Nat) (L : xL) (st : List Value) (S : ST), nx1 cod_X4_watchLevel cut_X4_watchLevel K n 51 L st S = (O_iload 1 1) (nx cod_X4_watchLevel cut_X4_watchLevel K n) 51 L st S) ∧
  (∀ (K : Kt ST) (n : Nat) (L : xL) (st : List Value) (S : ST), nx cod_X4_watchLevel cut_X4_watchLevel K (n + 1) 52 L st S = (O_aload 0 1) (nx cod_X4_watchLevel cut_X4_watchLevel K n) 52 L st S) ∧
  (∀ (K : Kt ST) (n : Nat) (L : xL) (st : List Value) (S : ST), nx cod_X4_watchLevel cut_X4_watchLevel K (n + 1) 53 L st S = (O_getf stW 4 1) (nx cod_X4_watchLevel cut_X4_watchLevel K n) 53 L st S) ∧
  (∀ (K : Kt ST) (n : Nat) (L : xL) (st : List Value) (S : ST), nx cod_X4_watchLevel cut_X4_watchLevel K (n + 1) 56 L st S = (O_getf stW 3 8) (nx cod_X4_watchLevel cut_X4_watchLevel K n) 56 L st S) ∧
  (∀ (K : Kt ST) (n : Nat) (L : xL) (st : List Value) (S : ST), nx cod_X4_watchLevel cut_X4_watchLevel K (n + 1) 59 L st S = (O_icmp_ge 74) (nx cod_X4_watchLevel cut_X4_watchLevel K n) 59 L st S) ∧
  (∀ (K : Kt ST) (n : Nat) (L : xL) (st : List Value) (S : ST), nx cod_X4_watchLevel cut_X4_watchLevel K (n + 1) 62 L st S = (O_aload 0 1) (nx cod_X4_watchLevel cut_X4_watchLevel K n) 62 L st S) ∧
  (∀ (K : Kt ST) (n : Nat) (L : xL) (st : List Value) (S : ST), nx cod_X4_watchLevel cut_X4_watchLevel K (n + 1) 63 L st S = (O_iload 1 1) (nx cod_X4_watchLevel cut_X4_watchLevel K n) 63 L st S) ∧
  (∀ (K : Kt ST) (n : Nat) (L : xL) (st : List Value) (S : ST), nx cod_X4_watchLevel cut_X4_watchLevel K (n + 1) 64 L st S = (O_callV 1 0 (fun S => S) (fun _ S' => S') sp_X4_stop) (nx cod_X4_watchLevel cut_X4_watchLevel K n) 64 L st S) ∧
  (∀ (K : Kt ST) (n : Nat) (L : xL) (st : List Value) (S : ST), nx cod_X4_watchLevel cut_X4_watchLevel K (n + 1) 67 L st S = (O_pop) (nx cod_X4_watchLevel cut_X4_watchLevel K n) 67 L st S) ∧
  (∀ (K : Kt ST) (n : Nat) (L : xL) (st : List Value) (S : ST), nx cod_X4_watchLevel cut_X4_watchLevel K (n + 1) 68 L st S = (O_iinc 1 1) (nx cod_X4_watchLevel cut_X4_watchLevel K n) 68 L st S) ∧
  (∀ (K : Kt ST) (n : Nat) (L : xL) (st : List Value) (S : ST), nx cod_X4_watchLevel cut_X4_watchLevel K (n + 1) 71 L st S = (O_goto 51) (nx cod_X4_watchLevel cut_X4_watchLevel K n) 71 L st S) ∧
  (∀ (K : Kt ST) (n : Nat) (L : xL) (st : List Value) (S : ST), nx cod_X4_watchLevel cut_X4_watchLevel K (n + 1) 74 L st S = (O_aload 0 1) (nx cod_X4_watchLevel cut_X4_watchLevel K n) 74 L st S) ∧
  (∀ (K : Kt ST) (n : Nat) (L : xL) (st : List Value) (S : ST), nx cod_X4_watchLevel cut_X4_watchLevel K (n + 1) 75 L st S = (O_int 1 1) (nx cod_X4_watchLevel cut_X4_watchLevel K n) 75 L st S) ∧
  (∀ (K : Kt ST) (n : Nat) (L : xL) (st : List Value) (S : ST), nx cod_X4_watchLevel cut_X4_watchLevel K (n + 1) 76 L st S = (O_putn .boolean stW_p4_11) (nx cod_X4_watchLevel cut_X4_watchLevel K n) 76 L st S) ∧
  (∀ (K : Kt ST) (n : Nat) (L : xL) (st : List Value) (S : ST), nx cod_X4_watchLevel cut_X4_watchLevel K (n + 1) 79 L st S = (O_aload 0 1) (nx cod_X4_watchLevel cut_X4_watchLevel K n) 79 L st S) ∧
  (∀ (K : Kt ST) (n : Nat) (L : xL) (st : List Value) (S : ST), nx cod_X4_watchLevel cut_X4_watchLevel K (n + 1) 80 L st S = (O_dup) (nx cod_X4_watchLevel cut_X4_watchLevel K n) 80 L st S) ∧
  (∀ (K : Kt ST) (n : Nat) (L : xL) (st : List Value) (S : ST), nx cod_X4_watchLevel cut_X4_watchLevel K (n + 1) 81 L st S = (O_getf stW 4 13) (nx cod_X4_watchLevel cut_X4_watchLevel K n) 81 L st S) ∧
  (∀ (K : Kt ST) (n : Nat) (L : xL) (st : List Value) (S : ST), nx cod_X4_watchLevel cut_X4_watchLevel K (n + 1) 84 L st S = (O_int 1 1) (nx cod_X4_watchLevel cut_X4_watchLevel K n) 84 L st S) ∧
  (∀ (K : Kt ST) (n : Nat) (L : xL) (st : List Value) (S : ST), nx cod_X4_watchLevel cut_X4_watchLevel K (n + 1) 85 L st S = (O_iadd) (nx cod_X4_watchLevel cut_X4_watchLevel K n) 85 L st S) ∧
  (∀ (K : Kt ST) (n : Nat) (L : xL) (st : List Value) (S : ST), nx cod_X4_watchLevel cut_X4_watchLevel K (n + 1) 86 L st S = (O_puti stW_p4_13) (nx cod_X4_watchLevel cut_X4_watchLevel K n) 86 L st S) ∧
  (∀ (K : Kt ST) (n : Nat) (L : xL) (st : List Value) (S : ST), nx cod_X4_watchLevel cut_X4_watchLevel K (n + 1) 89 L st S = (O_aload 0 1) (nx cod_X4_watchLevel cut_X4_watchLevel K n) 89 L st S) ∧
  (∀ (K : Kt ST) (n : Nat) (L : xL) (st : List Value) (S : ST), nx cod_X4_watchLevel cut_X4_watchLevel K (n + 1) 90 L st S = (O_getf stW 4 4) (nx cod_X4_watchLevel cut_X4_watchLevel K n) 90 L st S) ∧
  (∀ (K : Kt ST) (n : Nat) (L : xL) (st : List Value) (S : ST), nx cod_X4_watchLevel cut_X4_watchLevel K (n + 1) 93 L st S = (O_int 4 1) (nx cod_X4_watchLevel cut_X4_watchLevel K n) 93 L st S) ∧
  (∀ (K : Kt ST) (n : Nat) (L : xL) (st : List Value) (S : ST), nx cod_X4_watchLevel cut_X4_watchLevel K (n + 1) 94 L st S = (O_aload 0 1) (nx cod_X4_watchLevel cut_X4_watchLevel K n) 94 L st S) ∧
  (∀ (K : Kt ST) (n : Nat) (L : xL) (st : List Value) (S : ST), nx cod_X4_watchLevel cut_X4_watchLevel K (n + 1) 95 L st S = (O_getf stW 4 5) (nx cod_X4_watchLevel cut_X4_watchLevel K n) 95 L st S) ∧
  (∀ (K : Kt ST) (n : Nat) (L : xL) (st : List Value) (S : ST), nx cod_X4_watchLevel cut_X4_watchLevel K (n + 1) 98 L st S = (O_int (-1) 1) (nx cod_X4_watchLevel cut_X4_watchLevel K n) 98 L st S) ∧
  (∀ (K : Kt ST) (n : Nat) (L : xL) (st : List Value) (S : ST), nx cod_X4_watchLevel cut_X4_watchLevel K (n + 1) 99 L st S = (O_callV 3 19 (fun S : ST => S.E) (fun S u => S.sE u) sp_X0_add) (nx cod_X4_watchLevel cut_X4_watchLevel K n) 99 L st S) ∧
  (∀ (K : Kt ST) (n : Nat) (L : xL) (st : List Value) (S : ST), nx cod_X4_watchLevel cut_X4_watchLevel K (n + 1) 102 L st S = K 102 L st S) ∧
  (∀ (K : Kt ST) (n : Nat) (L : xL) (st : List Value) (S : ST), nx1 cod_X4_watchLevel cut_X4_watchLevel K n 102 L st S = (O_aload 0 1) (nx cod_X4_watchLevel cut_X4_watchLevel K n) 102 L st S) ∧
  (∀ (K : Kt ST) (n : Nat) (L : xL) (st : List Value) (S : ST), nx cod_X4_watchLevel cut_X4_watchLevel K (n + 1) 103 L st S = (O_getf stW 4 13) (nx cod_X4_watchLevel cut_X4_watchLevel K n) 103 L st S) ∧
  (∀ (K : Kt ST) (n : Nat) (L : xL) (st : List Value) (S : ST), nx cod_X4_watchLevel cut_X4_watchLevel K (n + 1) 106 L st S = (O_int 3 1) (nx cod_X4_watchLevel cut_X4_watchLevel K n) 106 L st S) ∧
  (∀ (K : Kt ST) (n : Nat) (L : xL) (st : List Value) (S : ST), nx cod_X4_watchLevel cut_X4_watchLevel K (n + 1) 107 L st S = (O_icmp_ge 114) (nx cod_X4_watchLevel cut_X4_watchLevel K n) 107 L st S) ∧
  (∀ (K : Kt ST) (n : Nat) (L : xL) (st : List Value) (S : ST), nx cod_X4_watchLevel cut_X4_watchLevel K (n + 1) 110 L st S = (O_aload 0 1) (nx cod_X4_watchLevel cut_X4_watchLevel K n) 110 L st S) ∧
  (∀ (K : Kt ST) (n : Nat) (L : xL) (st : List Value) (S : ST), nx cod_X4_watchLevel cut_X4_watchLevel K (n + 1) 111 L st S = (O_callV 0 0 (fun S => S) (fun _ S' => S') sp_X4_goOnIfFilled) (nx cod_X4_watchLevel cut_X4_watchLevel K n) 111 L st S) ∧
  (∀ (K : Kt ST) (n : Nat) (L : xL) (st : List Value) (S : ST), nx cod_X4_watchLevel cut_X4_watchLevel K (n + 1) 114 L st S = (O_vret) (nx cod_X4_watchLevel cut_X4_watchLevel K n) 114 L st S) ∧
  (∀ (K : Kt ST) (n : Nat) (L : xL) (st : List Value) (S : ST), nx cod_X4_watchLevel cut_X4_watchLevel K (n + 1) 100000 L st S = K 100000 L st S) := by
  repeat' apply And.intro
  all_goals (intros; rfl)
set_option maxRecDepth 100000 in
theorem mk_X4_watchLevel {P P' : ST} {r : Option Value}  (body : ∀ E : En, CodOk E stW cod_X4_watchLevel → Gd E stW 100000 [] r.toList P' → Gd E stW 0 [some (.ref 0), none] [] P) : Con yX4_watchLevel cX4_watchLevel 2 none 3 stW [.ref 0] P r P' :=
  Con.of (by decide) rfl rfl (Nat.le_of_ble_eq_true rfl) (fun E F G hr => body E (okc_X4_watchLevel F G) hr)
theorem con_X4_watchLevel (S : ST)  (hp : S.P.ok) : Con yX4_watchLevel cX4_watchLevel 2 none 3 stW [.ref 0] S (none) (S.watchL) := by
  refine mk_X4_watchLevel (fun E C hr => ?_)
  have h102 : ∀ q : Option Value, Gd E stW 102 [some (.ref 0), q] [] S.level1.level2 := by
    intro q
    (refine nx1_ok C cut_X4_watchLevel 1000 ?_; simp only [w_X4_watchLevel, ops_eq, xst_eq, call_eq, oK_eq, Option.toList_some, Option.toList_none, List.cons_append, List.nil_append, List.length_cons, List.length_nil, true_and, and_true, Nat.reduceAdd, stW_F, stW_A, stW_S, stW_P, ST_id, ST_gs, PT_gs, ZT_gs, NT_gs, ET_gs, se_X4_stop, se_X0_add, se_X4_goOnIfFilled])
    ((repeat' (with_reducible first | apply And.intro | intro _)) <;> simp_all [ST.watchL, ST.level3, ST_id, ST_gs, PT_gs, ZT_gs, NT_gs, ET_gs])
  have h28 : Gd E stW 28 [some (.ref 0), none] [] S.level1 := by
    have h51 : S.level1.dry = 0 ∧ ¬ S.level1.dryMinutes < S.level1.settings 13 → Gd E stW 51 [some (.ref 0), some (.int (nI 0))] [] S.level1 := by
      intro hc
      refine it_up (f := fun p T => ST.stop T (nI p)) (a := S.level1) (n := S.P.n) (fun _ T => T.P.size = S.P.size) (fun i T => Gd E stW 51 [some (.ref 0), some (.int (nI i))] [] T) rfl (fun i T hi hT => (ST.stop_size T _).trans hT) (fun i T hi hT hn => ?_) ?_
      · have hx := ixs hp hi
        have hok := (PT.ok_of hp hT).1
        (refine nx1_ok C cut_X4_watchLevel 1000 ?_; simp only [w_X4_watchLevel, ops_eq, xst_eq, call_eq, oK_eq, Option.toList_some, Option.toList_none, List.cons_append, List.nil_append, List.length_cons, List.length_nil, true_and, and_true, Nat.reduceAdd, stW_F, stW_A, stW_S, stW_P, ST_id, ST_gs, PT_gs, ZT_gs, NT_gs, ET_gs, se_X4_stop, se_X0_add, se_X4_goOnIfFilled, hx, hT])
        ((repeat' (with_reducible first | apply And.intro | intro _)) <;> simp_all [ST_id, ST_gs, PT_gs, ZT_gs, NT_gs, ET_gs])
      · have hx := ixe hp
        have hT := ST.stopAll_size S.level1
        have e : it (fun p T => ST.stop T (nI p)) S.level1 S.P.n = S.level1.stopAll := rfl
        rw [e]
        have hT2 : S.level1.stopAll.P.size = S.P.size := hT
        (refine nx1_ok C cut_X4_watchLevel 1000 ?_; simp only [w_X4_watchLevel, ops_eq, xst_eq, call_eq, oK_eq, Option.toList_some, Option.toList_none, List.cons_append, List.nil_append, List.length_cons, List.length_nil, true_and, and_true, Nat.reduceAdd, stW_F, stW_A, stW_S, stW_P, ST_id, ST_gs, PT_gs, ZT_gs, NT_gs, ET_gs, se_X4_stop, se_X0_add, se_X4_goOnIfFilled, hx, hT2, v8_eq, show narrow .boolean (.int 1) = .int 1 from rfl, show fits .boolean (.int 1) = true from rfl])
        ((repeat' (with_reducible first | apply And.intro | intro _)) <;> simp_all [ST.level2, ST.event, ST_id, ST_gs, PT_gs, ZT_gs, NT_gs, ET_gs])
    (refine nx1_ok C cut_X4_watchLevel 1000 ?_; simp only [w_X4_watchLevel, ops_eq, xst_eq, call_eq, oK_eq, Option.toList_some, Option.toList_none, List.cons_append, List.nil_append, List.length_cons, List.length_nil, true_and, and_true, Nat.reduceAdd, stW_F, stW_A, stW_S, stW_P, ST_id, ST_gs, PT_gs, ZT_gs, NT_gs, ET_gs, se_X4_stop, se_X0_add, se_X4_goOnIfFilled, v19_eq, cl_eq])
    ((repeat' (with_reducible first | apply And.intro | intro _)) <;> simp_all [ST.level2, nI_0, ST_id, ST_gs, PT_gs, ZT_gs, NT_gs, ET_gs])
  (refine nx_ok C (cuts := cut_X4_watchLevel) 1000 _ _ _ _ ?_; simp only [w_X4_watchLevel, ops_eq, xst_eq, call_eq, oK_eq, Option.toList_some, Option.toList_none, List.cons_append, List.nil_append, List.length_cons, List.length_nil, true_and, and_true, Nat.reduceAdd, stW_F, stW_A, stW_S, stW_P, ST_id, ST_gs, PT_gs, ZT_gs, NT_gs, ET_gs, se_X4_stop, se_X0_add, se_X4_goOnIfFilled, v19_eq, cl_eq])
  ((repeat' (with_reducible first | apply And.intro | intro _)) <;> simp_all [ST.level1, ST_id, ST_gs, PT_gs, ZT_gs, NT_gs, ET_gs])
def sp_X4_watchLevel : Sp ST := fun av S K => match av with
  | [.ref 0] => (S.P.ok) ∧ K (none) (S.watchL)
  | _ => False
theorem se_X4_watchLevel  (S : ST) (K : Option Value → ST → Prop) : sp_X4_watchLevel [.ref 0] S K = ((S.P.ok) ∧ K (none) (S.watchL)) := rfl
theorem spok_X4_watchLevel : SpOk yX4_watchLevel cX4_watchLevel 2 none 3 stW sp_X4_watchLevel := by
  intro av S K h
  unfold sp_X4_watchLevel at h
  split at h
  · exact ⟨none, S.watchL, trivial, con_X4_watchLevel S  h.1, h.2⟩
  · exact h.elim
def ST.low (S : ST) : Bool := decide (S.pressure < S.settings 0 - S.settings 1)
def ST.high (S : ST) : Bool := decide (S.settings 0 + S.settings 1 < S.pressure)
def ST.wo (S : ST) : Bool := decide (S.P.has S.P.vrb = false)
def ST.gStart (S : ST) : Bool := decide (0 < S.P.running ∧ S.low = true ∧ (S.wo = true ∨ S.P.vAt 1000 = true))
def ST.gStop (S : ST) : Bool := decide (0 < S.P.running ∧ S.high = true ∧ (S.wo = true ∨ S.P.vAt (S.settings 4) = true))
def ST.gSleep (S : ST) : Bool := decide (S.P.running = 1 ∧ S.P.vAt (S.settings 4) = true ∧ S.supply < S.settings 7)
def ST.cnt (S : ST) : ST := ((S.sToStart (if S.gStart = true then S.toStart + 1 else 0)).sToStop (if S.gStop = true then S.toStop + 1 else 0)).sToSleep (if S.gSleep = true then S.toSleep + 1 else 0)
def cod_X4_countMinutes : List (Nat × Op ST) := [(0, O_aload 0 1), (1, O_getf stW 4 1), (4, O_callV 0 2 (fun S : ST => S.P) (fun S u => S.sP u) sp_X3_running), (7, O_istore 1 1), (8, O_aload 0 1), (9, O_getf stW 4 6), (12, O_aload 0 1), (13, O_getf stW 4 0), (16, O_int 0 1), (17, O_ald stW 0), (18, O_aload 0 1), (19, O_getf stW 4 0), (22, O_int 1 1), (23, O_ald stW 0), (24, O_isub), (25, O_icmp_ge 32), (28, O_int 1 1), (29, O_goto 33), (32, O_int 0 1), (33, O_istore 2 1), (34, O_aload 0 1), (35, O_getf stW 4 6), (38, O_aload 0 1), (39, O_getf stW 4 0), (42, O_int 0 1), (43, O_ald stW 0), (44, O_aload 0 1), (45, O_getf stW 4 0), (48, O_int 1 1), (49, O_ald stW 0), (50, O_iadd), (51, O_icmp_le 58), (54, O_int 1 1), (55, O_goto 59), (58, O_int 0 1), (59, O_istore 3 1), (60, O_aload 0 1), (61, O_getf stW 4 1), (64, O_callV 0 2 (fun S : ST => S.P) (fun S u => S.sP u) sp_X3_hasVariable), (67, O_if_ne 74), (70, O_int 1 1), (71, O_goto 75), (74, O_int 0 1), (75, O_istore 4 2), (77, O_aload 0 1), (78, O_getf stW 4 1), (81, O_int 1000 3), (84, O_callV 1 2 (fun S : ST => S.P) (fun S u => S.sP u) sp_X3_variableAt), (87, O_istore 5 2), (89, O_aload 0 1), (90, O_getf stW 4 1), (93, O_aload 0 1), (94, O_getf stW 4 0), (97, O_int 4 1), (98, O_ald stW 0), (99, O_callV 1 2 (fun S : ST => S.P) (fun S u => S.sP u) sp_X3_variableAt), (102, O_istore 6 2), (104, O_iload 1 1), (105, O_if_le 126), (108, O_iload 2 1), (109, O_if_eq 126), (112, O_iload 4 2), (114, O_if_ne 122), (117, O_iload 5 2), (119, O_if_eq 126), (122, O_int 1 1), (123, O_goto 127), (126, O_int 0 1), (127, O_istore 7 2), (129, O_iload 1 1), (130, O_if_le 151), (133, O_iload 3 1), (134, O_if_eq 151), (137, O_iload 4 2), (139, O_if_ne 147), (142, O_iload 6 2), (144, O_if_eq 151), (147, O_int 1 1), (148, O_goto 152), (151, O_int 0 1), (152, O_istore 8 2), (154, O_iload 1 1), (155, O_int 1 1), (156, O_icmp_ne 182), (159, O_iload 6 2), (161, O_if_eq 182), (164, O_aload 0 1), (165, O_getf stW 4 9), (168, O_aload 0 1), (169, O_getf stW 4 0), (172, O_int 7 2), (174, O_ald stW 0), (175, O_icmp_ge 182), (178, O_int 1 1), (179, O_goto 183), (182, O_int 0 1), (183, O_istore 9 2), (185, O_aload 0 1), (186, O_iload 7 2), (188, O_if_eq 200), (191, O_aload 0 1), (192, O_getf stW 4 14), (195, O_int 1 1), (196, O_iadd), (197, O_goto 201), (200, O_int 0 1), (201, O_puti stW_p4_14), (204, O_aload 0 1), (205, O_iload 8 2), (207, O_if_eq 219), (210, O_aload 0 1), (211, O_getf stW 4 15), (214, O_int 1 1), (215, O_iadd), (216, O_goto 220), (219, O_int 0 1), (220, O_puti stW_p4_15), (223, O_aload 0 1), (224, O_iload 9 2), (226, O_if_eq 238), (229, O_aload 0 1), (230, O_getf stW 4 16), (233, O_int 1 1), (234, O_iadd), (235, O_goto 239), (238, O_int 0 1), (239, O_puti stW_p4_16), (242, O_vret)]
abbrev cut_X4_countMinutes : List Nat := [34, 60, 77, 104, 129, 154, 185, 204, 223]
set_option maxRecDepth 100000 in
theorem okc_X4_countMinutes {E : En} (F : Fx E RX4 cX4_countMinutes 10 2) (G : Fr E none) : CodOk E stW cod_X4_countMinutes := by
  unfold CodOk cod_X4_countMinutes
  refine List.forall_mem_cons.mpr ⟨ok_aload_n F dX4_countMinutes_0 rfl (by decide), ?_⟩
  refine List.forall_mem_cons.mpr ⟨ok_getf F flX4_26 dX4_countMinutes_1 (by decide), ?_⟩
  refine List.forall_mem_cons.mpr ⟨ok_callV F spok_X3_running ln_st_P rcv_pW (by decide +kernel) (by decide) dX4_countMinutes_4 (by decide), ?_⟩
  refine List.forall_mem_cons.mpr ⟨ok_istore_n F dX4_countMinutes_7 rfl (by decide) (by decide), ?_⟩
  refine List.forall_mem_cons.mpr ⟨ok_aload_n F dX4_countMinutes_8 rfl (by decide), ?_⟩
  refine List.forall_mem_cons.mpr ⟨ok_getf F flX4_77 dX4_countMinutes_9 (by decide), ?_⟩
  refine List.forall_mem_cons.mpr ⟨ok_aload_n F dX4_countMinutes_12 rfl (by decide), ?_⟩
  refine List.forall_mem_cons.mpr ⟨ok_getf F flX4_18 dX4_countMinutes_13 (by decide), ?_⟩
  refine List.forall_mem_cons.mpr ⟨ok_iconst F dX4_countMinutes_16 (by decide) (by decide), ?_⟩
  refine List.forall_mem_cons.mpr ⟨ok_iald F dX4_countMinutes_17 (by decide), ?_⟩
  refine List.forall_mem_cons.mpr ⟨ok_aload_n F dX4_countMinutes_18 rfl (by decide), ?_⟩
  refine List.forall_mem_cons.mpr ⟨ok_getf F flX4_18 dX4_countMinutes_19 (by decide), ?_⟩
  refine List.forall_mem_cons.mpr ⟨ok_iconst F dX4_countMinutes_22 (by decide) (by decide), ?_⟩
  refine List.forall_mem_cons.mpr ⟨ok_iald F dX4_countMinutes_23 (by decide), ?_⟩
  refine List.forall_mem_cons.mpr ⟨ok_isub F dX4_countMinutes_24 (by decide), ?_⟩
  refine List.forall_mem_cons.mpr ⟨ok_icmp_ge F dX4_countMinutes_25 (by decide) (by decide) (by decide), ?_⟩
  refine List.forall_mem_cons.mpr ⟨ok_iconst F dX4_countMinutes_28 (by decide) (by decide), ?_⟩
  refine List.forall_mem_cons.mpr ⟨ok_goto F dX4_countMinutes_29 (by decide) (by decide) (by decide), ?_⟩
  refine List.forall_mem_cons.mpr ⟨ok_iconst F dX4_countMinutes_32 (by decide) (by decide), ?_⟩
  refine List.forall_mem_cons.mpr ⟨ok_istore_n F dX4_countMinutes_33 rfl (by decide) (by decide), ?_⟩
  refine List.forall_mem_cons.mpr ⟨ok_aload_n F dX4_countMinutes_34 rfl (by decide), ?_⟩
  refine List.forall_mem_cons.mpr ⟨ok_getf F flX4_77 dX4_countMinutes_35 (by decide), ?_⟩
  refine List.forall_mem_cons.mpr ⟨ok_aload_n F dX4_countMinutes_38 rfl (by decide), ?_⟩
  refine List.forall_mem_cons.mpr ⟨ok_getf F flX4_18 dX4_countMinutes_39 (by decide), ?_⟩
  refine List.forall_mem_cons.mpr ⟨ok_iconst F dX4_countMinutes_42 (by decide) (by decide), ?_⟩
  refine List.forall_mem_cons.mpr ⟨ok_iald F dX4_countMinutes_43 (by decide), ?_⟩
  refine List.forall_mem_cons.mpr ⟨ok_aload_n F dX4_countMinutes_44 rfl (by decide), ?_⟩
  refine List.forall_mem_cons.mpr ⟨ok_getf F flX4_18 dX4_countMinutes_45 (by decide), ?_⟩
  refine List.forall_mem_cons.mpr ⟨ok_iconst F dX4_countMinutes_48 (by decide) (by decide), ?_⟩
  refine List.forall_mem_cons.mpr ⟨ok_iald F dX4_countMinutes_49 (by decide), ?_⟩
  refine List.forall_mem_cons.mpr ⟨ok_iadd F dX4_countMinutes_50 (by decide), ?_⟩
  refine List.forall_mem_cons.mpr ⟨ok_icmp_le F dX4_countMinutes_51 (by decide) (by decide) (by decide), ?_⟩
  refine List.forall_mem_cons.mpr ⟨ok_iconst F dX4_countMinutes_54 (by decide) (by decide), ?_⟩
  refine List.forall_mem_cons.mpr ⟨ok_goto F dX4_countMinutes_55 (by decide) (by decide) (by decide), ?_⟩
  refine List.forall_mem_cons.mpr ⟨ok_iconst F dX4_countMinutes_58 (by decide) (by decide), ?_⟩
  refine List.forall_mem_cons.mpr ⟨ok_istore_n F dX4_countMinutes_59 rfl (by decide) (by decide), ?_⟩
  refine List.forall_mem_cons.mpr ⟨ok_aload_n F dX4_countMinutes_60 rfl (by decide), ?_⟩
  refine List.forall_mem_cons.mpr ⟨ok_getf F flX4_26 dX4_countMinutes_61 (by decide), ?_⟩
  refine List.forall_mem_cons.mpr ⟨ok_callV F spok_X3_hasVariable ln_st_P rcv_pW (by decide +kernel) (by decide) dX4_countMinutes_64 (by decide), ?_⟩
  refine List.forall_mem_cons.mpr ⟨ok_if_ne F dX4_countMinutes_67 (by decide) (by decide) (by decide), ?_⟩
  refine List.forall_mem_cons.mpr ⟨ok_iconst F dX4_countMinutes_70 (by decide) (by decide), ?_⟩
  refine List.forall_mem_cons.mpr ⟨ok_goto F dX4_countMinutes_71 (by decide) (by decide) (by decide), ?_⟩
  refine List.forall_mem_cons.mpr ⟨ok_iconst F dX4_countMinutes_74 (by decide) (by decide), ?_⟩
  refine List.forall_mem_cons.mpr ⟨ok_istore F dX4_countMinutes_75 (by decide) (by decide), ?_⟩
  refine List.forall_mem_cons.mpr ⟨ok_aload_n F dX4_countMinutes_77 rfl (by decide), ?_⟩
  refine List.forall_mem_cons.mpr ⟨ok_getf F flX4_26 dX4_countMinutes_78 (by decide), ?_⟩
  refine List.forall_mem_cons.mpr ⟨ok_sipush F dX4_countMinutes_81 (by decide) (by decide), ?_⟩
  refine List.forall_mem_cons.mpr ⟨ok_callV F spok_X3_variableAt ln_st_P rcv_pW (by decide +kernel) (by decide) dX4_countMinutes_84 (by decide), ?_⟩
  refine List.forall_mem_cons.mpr ⟨ok_istore F dX4_countMinutes_87 (by decide) (by decide), ?_⟩
  refine List.forall_mem_cons.mpr ⟨ok_aload_n F dX4_countMinutes_89 rfl (by decide), ?_⟩
  refine List.forall_mem_cons.mpr ⟨ok_getf F flX4_26 dX4_countMinutes_90 (by decide), ?_⟩
  refine List.forall_mem_cons.mpr ⟨ok_aload_n F dX4_countMinutes_93 rfl (by decide), ?_⟩
  refine List.forall_mem_cons.mpr ⟨ok_getf F flX4_18 dX4_countMinutes_94 (by decide), ?_⟩
  refine List.forall_mem_cons.mpr ⟨ok_iconst F dX4_countMinutes_97 (by decide) (by decide), ?_⟩
  refine List.forall_mem_cons.mpr ⟨ok_iald F dX4_countMinutes_98 (by decide), ?_⟩
  refine List.forall_mem_cons.mpr ⟨ok_callV F spok_X3_variableAt ln_st_P rcv_pW (by decide +kernel) (by decide) dX4_countMinutes_99 (by decide), ?_⟩
  refine List.forall_mem_cons.mpr ⟨ok_istore F dX4_countMinutes_102 (by decide) (by decide), ?_⟩
  refine List.forall_mem_cons.mpr ⟨ok_iload_n F dX4_countMinutes_104 rfl (by decide), ?_⟩
  refine List.forall_mem_cons.mpr ⟨ok_if_le F dX4_countMinutes_105 (by decide) (by decide) (by decide), ?_⟩
  refine List.forall_mem_cons.mpr ⟨ok_iload_n F dX4_countMinutes_108 rfl (by decide), ?_⟩
  refine List.forall_mem_cons.mpr ⟨ok_if_eq F dX4_countMinutes_109 (by decide) (by decide) (by decide), ?_⟩
  refine List.forall_mem_cons.mpr ⟨ok_iload F dX4_countMinutes_112 (by decide), ?_⟩
  refine List.forall_mem_cons.mpr ⟨ok_if_ne F dX4_countMinutes_114 (by decide) (by decide) (by decide), ?_⟩
  refine List.forall_mem_cons.mpr ⟨ok_iload F dX4_countMinutes_117 (by decide), ?_⟩
  refine List.forall_mem_cons.mpr ⟨ok_if_eq F dX4_countMinutes_119 (by decide) (by decide) (by decide), ?_⟩
  refine List.forall_mem_cons.mpr ⟨ok_iconst F dX4_countMinutes_122 (by decide) (by decide), ?_⟩
  refine List.forall_mem_cons.mpr ⟨ok_goto F dX4_countMinutes_123 (by decide) (by decide) (by decide), ?_⟩
  refine List.forall_mem_cons.mpr ⟨ok_iconst F dX4_countMinutes_126 (by decide) (by decide), ?_⟩
  refine List.forall_mem_cons.mpr ⟨ok_istore F dX4_countMinutes_127 (by decide) (by decide), ?_⟩
  refine List.forall_mem_cons.mpr ⟨ok_iload_n F dX4_countMinutes_129 rfl (by decide), ?_⟩
  refine List.forall_mem_cons.mpr ⟨ok_if_le F dX4_countMinutes_130 (by decide) (by decide) (by decide), ?_⟩
  refine List.forall_mem_cons.mpr ⟨ok_iload_n F dX4_countMinutes_133 rfl (by decide), ?_⟩
  refine List.forall_mem_cons.mpr ⟨ok_if_eq F dX4_countMinutes_134 (by decide) (by decide) (by decide), ?_⟩
  refine List.forall_mem_cons.mpr ⟨ok_iload F dX4_countMinutes_137 (by decide), ?_⟩
  refine List.forall_mem_cons.mpr ⟨ok_if_ne F dX4_countMinutes_139 (by decide) (by decide) (by decide), ?_⟩
  refine List.forall_mem_cons.mpr ⟨ok_iload F dX4_countMinutes_142 (by decide), ?_⟩
  refine List.forall_mem_cons.mpr ⟨ok_if_eq F dX4_countMinutes_144 (by decide) (by decide) (by decide), ?_⟩
  refine List.forall_mem_cons.mpr ⟨ok_iconst F dX4_countMinutes_147 (by decide) (by decide), ?_⟩
  refine List.forall_mem_cons.mpr ⟨ok_goto F dX4_countMinutes_148 (by decide) (by decide) (by decide), ?_⟩
  refine List.forall_mem_cons.mpr ⟨ok_iconst F dX4_countMinutes_151 (by decide) (by decide), ?_⟩
  refine List.forall_mem_cons.mpr ⟨ok_istore F dX4_countMinutes_152 (by decide) (by decide), ?_⟩
  refine List.forall_mem_cons.mpr ⟨ok_iload_n F dX4_countMinutes_154 rfl (by decide), ?_⟩
  refine List.forall_mem_cons.mpr ⟨ok_iconst F dX4_countMinutes_155 (by decide) (by decide), ?_⟩
  refine List.forall_mem_cons.mpr ⟨ok_icmp_ne F dX4_countMinutes_156 (by decide) (by decide) (by decide), ?_⟩
  refine List.forall_mem_cons.mpr ⟨ok_iload F dX4_countMinutes_159 (by decide), ?_⟩
  refine List.forall_mem_cons.mpr ⟨ok_if_eq F dX4_countMinutes_161 (by decide) (by decide) (by decide), ?_⟩
  refine List.forall_mem_cons.mpr ⟨ok_aload_n F dX4_countMinutes_164 rfl (by decide), ?_⟩
  refine List.forall_mem_cons.mpr ⟨ok_getf F flX4_83 dX4_countMinutes_165 (by decide), ?_⟩
  refine List.forall_mem_cons.mpr ⟨ok_aload_n F dX4_countMinutes_168 rfl (by decide), ?_⟩
  refine List.forall_mem_cons.mpr ⟨ok_getf F flX4_18 dX4_countMinutes_169 (by decide), ?_⟩
  refine List.forall_mem_cons.mpr ⟨ok_bipush F dX4_countMinutes_172 (by decide) (by decide), ?_⟩
  refine List.forall_mem_cons.mpr ⟨ok_iald F dX4_countMinutes_174 (by decide), ?_⟩
  refine List.forall_mem_cons.mpr ⟨ok_icmp_ge F dX4_countMinutes_175 (by decide) (by decide) (by decide), ?_⟩
  refine List.forall_mem_cons.mpr ⟨ok_iconst F dX4_countMinutes_178 (by decide) (by decide), ?_⟩
  refine List.forall_mem_cons.mpr ⟨ok_goto F dX4_countMinutes_179 (by decide) (by decide) (by decide), ?_⟩
  refine List.forall_mem_cons.mpr ⟨ok_iconst F dX4_countMinutes_182 (by decide) (by decide), ?_⟩
  refine List.forall_mem_cons.mpr ⟨ok_istore F dX4_countMinutes_183 (by decide) (by decide), ?_⟩
  refine List.forall_mem_cons.mpr ⟨ok_aload_n F dX4_countMinutes_185 rfl (by decide), ?_⟩
  refine List.forall_mem_cons.mpr ⟨ok_iload F dX4_countMinutes_186 (by decide), ?_⟩
  refine List.forall_mem_cons.mpr ⟨ok_if_eq F dX4_countMinutes_188 (by decide) (by decide) (by decide), ?_⟩
  refine List.forall_mem_cons.mpr ⟨ok_aload_n F dX4_countMinutes_191 rfl (by decide), ?_⟩
  refine List.forall_mem_cons.mpr ⟨ok_getf F flX4_99 dX4_countMinutes_192 (by decide), ?_⟩
  refine List.forall_mem_cons.mpr ⟨ok_iconst F dX4_countMinutes_195 (by decide) (by decide), ?_⟩
  refine List.forall_mem_cons.mpr ⟨ok_iadd F dX4_countMinutes_196 (by decide), ?_⟩
  refine List.forall_mem_cons.mpr ⟨ok_goto F dX4_countMinutes_197 (by decide) (by decide) (by decide), ?_⟩
  refine List.forall_mem_cons.mpr ⟨ok_iconst F dX4_countMinutes_200 (by decide) (by decide), ?_⟩
  refine List.forall_mem_cons.mpr ⟨ok_puti F stW_p4_14_ok (fun _ _ _ h => by cases h; rfl) rfl flX4_99 dX4_countMinutes_201 (by decide), ?_⟩
  refine List.forall_mem_cons.mpr ⟨ok_aload_n F dX4_countMinutes_204 rfl (by decide), ?_⟩
  refine List.forall_mem_cons.mpr ⟨ok_iload F dX4_countMinutes_205 (by decide), ?_⟩
  refine List.forall_mem_cons.mpr ⟨ok_if_eq F dX4_countMinutes_207 (by decide) (by decide) (by decide), ?_⟩
  refine List.forall_mem_cons.mpr ⟨ok_aload_n F dX4_countMinutes_210 rfl (by decide), ?_⟩
  refine List.forall_mem_cons.mpr ⟨ok_getf F flX4_102 dX4_countMinutes_211 (by decide), ?_⟩
  refine List.forall_mem_cons.mpr ⟨ok_iconst F dX4_countMinutes_214 (by decide) (by decide), ?_⟩
  refine List.forall_mem_cons.mpr ⟨ok_iadd F dX4_countMinutes_215 (by decide), ?_⟩
  refine List.forall_mem_cons.mpr ⟨ok_goto F dX4_countMinutes_216 (by decide) (by decide) (by decide), ?_⟩
  refine List.forall_mem_cons.mpr ⟨ok_iconst F dX4_countMinutes_219 (by decide) (by decide), ?_⟩
  refine List.forall_mem_cons.mpr ⟨ok_puti F stW_p4_15_ok (fun _ _ _ h => by cases h; rfl) rfl flX4_102 dX4_countMinutes_220 (by decide), ?_⟩
  refine List.forall_mem_cons.mpr ⟨ok_aload_n F dX4_countMinutes_223 rfl (by decide), ?_⟩
  refine List.forall_mem_cons.mpr ⟨ok_iload F dX4_countMinutes_224 (by decide), ?_⟩
  refine List.forall_mem_cons.mpr ⟨ok_if_eq F dX4_countMinutes_226 (by decide) (by decide) (by decide), ?_⟩
  refine List.forall_mem_cons.mpr ⟨ok_aload_n F dX4_countMinutes_229 rfl (by decide), ?_⟩
  refine List.forall_mem_cons.mpr ⟨ok_getf F flX4_105 dX4_countMinutes_230 (by decide), ?_⟩
  refine List.forall_mem_cons.mpr ⟨ok_iconst F dX4_countMinutes_233 (by decide) (by decide), ?_⟩
  refine List.forall_mem_cons.mpr ⟨ok_iadd F dX4_countMinutes_234 (by decide), ?_⟩
  refine List.forall_mem_cons.mpr ⟨ok_goto F dX4_countMinutes_235 (by decide) (by decide) (by decide), ?_⟩
  refine List.forall_mem_cons.mpr ⟨ok_iconst F dX4_countMinutes_238 (by decide) (by decide), ?_⟩
  refine List.forall_mem_cons.mpr ⟨ok_puti F stW_p4_16_ok (fun _ _ _ h => by cases h; rfl) rfl flX4_105 dX4_countMinutes_239 (by decide), ?_⟩
  refine List.forall_mem_cons.mpr ⟨ok_vret F G dX4_countMinutes_242 (by decide), ?_⟩
  exact fun _ h => absurd h List.not_mem_nil
set_option maxRecDepth 100000 in
theorem w_X4_countMinutes : (∀ (K : Kt ST) (n : Nat) (L : xL) (st : List Value) (S : ST), nx cod_X4_countMinutes cut_X4_countMinutes K (n + 1) 0 L st S = (O_aload 0 1) (nx cod_X4_countMinutes cut_X4_countMinutes K n) 0 L st S) ∧
  (∀ (K : Kt ST) (n : Nat) (L : xL) (st : List Value) (S : ST), nx cod_X4_countMinutes cut_X4_countMinutes K (n + 1) 1 L st S = (O_getf stW 4 1) (nx cod_X4_countMinutes cut_X4_countMinutes K n) 1 L st S) ∧
  (∀ (K : Kt ST) (n : Nat) (L : xL) (st : List Value) (S : ST), nx cod_X4_countMinutes cut_X4_countMinutes K (n + 1) 4 L st S = (O_callV 0 2 (fun S : ST => S.P) (fun S u => S.sP u) sp_X3_running) (nx cod_X4_countMinutes cut_X4_countMinutes K n) 4 L st S) ∧
  (∀ (K : Kt ST) (n : Nat) (L : xL) (st : List Value) (S : ST), nx cod_X4_countMinutes cut_X4_countMinutes K (n + 1) 7 L st S = (O_istore 1 1) (nx cod_X4_countMinutes cut_X4_countMinutes K n) 7 L st S) ∧
  (∀ (K : Kt ST) (n : Nat) (L : xL) (st : List Value) (S : ST), nx cod_X4_countMinutes cut_X4_countMinutes K (n + 1) 8 L st S = (O_aload 0 1) (nx cod_X4_countMinutes cut_X4_countMinutes K n) 8 L st S) ∧
  (∀ (K : Kt ST) (n : Nat) (L : xL) (st : List Value) (S : ST), nx cod_X4_countMinutes cut_X4_countMinutes K (n + 1) 9 L st S = (O_getf stW 4 6) (nx cod_X4_countMinutes cut_X4_countMinutes K n) 9 L st S) ∧
  (∀ (K : Kt ST) (n : Nat) (L : xL) (st : List Value) (S : ST), nx cod_X4_countMinutes cut_X4_countMinutes K (n + 1) 12 L st S = (O_aload 0 1) (nx cod_X4_countMinutes cut_X4_countMinutes K n) 12 L st S) ∧
  (∀ (K : Kt ST) (n : Nat) (L : xL) (st : List Value) (S : ST), nx cod_X4_countMinutes cut_X4_countMinutes K (n + 1) 13 L st S = (O_getf stW 4 0) (nx cod_X4_countMinutes cut_X4_countMinutes K n) 13 L st S) ∧
  (∀ (K : Kt ST) (n : Nat) (L : xL) (st : List Value) (S : ST), nx cod_X4_countMinutes cut_X4_countMinutes K (n + 1) 16 L st S = (O_int 0 1) (nx cod_X4_countMinutes cut_X4_countMinutes K n) 16 L st S) ∧
  (∀ (K : Kt ST) (n : Nat) (L : xL) (st : List Value) (S : ST), nx cod_X4_countMinutes cut_X4_countMinutes K (n + 1) 17 L st S = (O_ald stW 0) (nx cod_X4_countMinutes cut_X4_countMinutes K n) 17 L st S) ∧
  (∀ (K : Kt ST) (n : Nat) (L : xL) (st : List Value) (S : ST), nx cod_X4_countMinutes cut_X4_countMinutes K (n + 1) 18 L st S = (O_aload 0 1) (nx cod_X4_countMinutes cut_X4_countMinutes K n) 18 L st S) ∧
  (∀ (K : Kt ST) (n : Nat) (L : xL) (st : List Value) (S : ST), nx cod_X4_countMinutes cut_X4_countMinutes K (n + 1) 19 L st S = (O_getf stW 4 0) (nx cod_X4_countMinutes cut_X4_countMinutes K n) 19 L st S) ∧
  (∀ (K : Kt ST) (n : Nat) (L : xL) (st : List Value) (S : ST), nx cod_X4_countMinutes cut_X4_countMinutes K (n + 1) 22 L st S = (O_int 1 1) (nx cod_X4_countMinutes cut_X4_countMinutes K n) 22 L st S) ∧
  (∀ (K : Kt ST) (n : Nat) (L : xL) (st : List Value) (S : ST), nx cod_X4_countMinutes cut_X4_countMinutes K (n + 1) 23 L st S = (O_ald stW 0) (nx cod_X4_countMinutes cut_X4_countMinutes K n) 23 L st S) ∧
  (∀ (K : Kt ST) (n : Nat) (L : xL) (st : List Value) (S : ST), nx cod_X4_countMinutes cut_X4_countMinutes K (n + 1) 24 L st S = (O_isub) (nx cod_X4_countMinutes cut_X4_countMinutes K n) 24 L st S) ∧
  (∀ (K : Kt ST) (n : Nat) (L : xL) (st : List Value) (S : ST), nx cod_X4_countMinutes cut_X4_countMinutes K (n + 1) 25 L st S = (O_icmp_ge 32) (nx cod_X4_countMinutes cut_X4_countMinutes K n) 25 L st S) ∧
  (∀ (K : Kt ST) (n : Nat) (L : xL) (st : List Value) (S : ST), nx cod_X4_countMinutes cut_X4_countMinutes K (n + 1) 28 L st S = (O_int 1 1) (nx cod_X4_countMinutes cut_X4_countMinutes K n) 28 L st S) ∧
  (∀ (K : Kt ST) (n : Nat) (L : xL) (st : List Value) (S : ST), nx cod_X4_countMinutes cut_X4_countMinutes K (n + 1) 29 L st S = (O_goto 33) (nx cod_X4_countMinutes cut_X4_countMinutes K n) 29 L st S) ∧
  (∀ (K : Kt ST) (n : Nat) (L : xL) (st : List Value) (S : ST), nx cod_X4_countMinutes cut_X4_countMinutes K (n + 1) 32 L st S = (O_int 0 1) (nx cod_X4_countMinutes cut_X4_countMinutes K n) 32 L st S) ∧
  (∀ (K : Kt ST) (n : Nat) (L : xL) (st : List Value) (S : ST), nx cod_X4_countMinutes cut_X4_countMinutes K (n + 1) 33 L st S = (O_istore 2 1) (nx cod_X4_countMinutes cut_X4_countMinutes K n) 33 L st S) ∧
  (∀ (K : Kt ST) (n : Nat) (L : xL) (st : List Value) (S : ST), nx cod_X4_countMinutes cut_X4_countMinutes K (n + 1) 34 L st S = K 34 L st S) ∧
  (∀ (K : Kt ST) (n : Nat) (L : xL) (st : List Value) (S : ST), nx1 cod_X4_countMinutes cut_X4_countMinutes K n 34 L st S = (O_aload 0 1) (nx cod_X4_countMinutes cut_X4_countMinutes K n) 34 L st S) ∧
  (∀ (K : Kt ST) (n : Nat) (L : xL) (st : List Value) (S : ST), nx cod_X4_countMinutes cut_X4_countMinutes K (n + 1) 35 L st S = (O_getf stW 4 6) (nx cod_X4_countMinutes cut_X4_countMinutes K n) 35 L st S) ∧
  (∀ (K : Kt ST) (n : Nat) (L : xL) (st : List Value) (S : ST), nx cod_X4_countMinutes cut_X4_countMinutes K (n + 1) 38 L st S = (O_aload 0 1) (nx cod_X4_countMinutes cut_X4_countMinutes K n) 38 L st S) ∧
  (∀ (K : Kt ST) (n : Nat) (L : xL) (st : List Value) (S : ST), nx cod_X4_countMinutes cut_X4_countMinutes K (n + 1) 39 L st S = (O_getf stW 4 0) (nx cod_X4_countMinutes cut_X4_countMinutes K n) 39 L st S) ∧
  (∀ (K : Kt ST) (n : Nat) (L : xL) (st : List Value) (S : ST), nx cod_X4_countMinutes cut_X4_countMinutes K (n + 1) 42 L st S = (O_int 0 1) (nx cod_X4_countMinutes cut_X4_countMinutes K n) 42 L st S) ∧
  (∀ (K : Kt ST) (n : Nat) (L : xL) (st : List Value) (S : ST), nx cod_X4_countMinutes cut_X4_countMinutes K (n + 1) 43 L st S = (O_ald stW 0) (nx cod_X4_countMinutes cut_X4_countMinutes K n) 43 L st S) ∧
  (∀ (K : Kt ST) (n : Nat) (L : xL) (st : List Value) (S : ST), nx cod_X4_countMinutes cut_X4_countMinutes K (n + 1) 44 L st S = (O_aload 0 1) (nx cod_X4_countMinutes cut_X4_countMinutes K n) 44 L st S) ∧
  (∀ (K : Kt ST) (n : Nat) (L : xL) (st : List Value) (S : ST), nx cod_X4_countMinutes cut_X4_countMinutes K (n + 1) 45 L st S = (O_getf stW 4 0) (nx cod_X4_countMinutes cut_X4_countMinutes K n) 45 L st S) ∧
  (∀ (K : Kt ST) (n : Nat) (L : xL) (st : List Value) (S : ST), nx cod_X4_countMinutes cut_X4_countMinutes K (n + 1) 48 L st S = (O_int 1 1) (nx cod_X4_countMinutes cut_X4_countMinutes K n) 48 L st S) ∧
  (∀ (K : Kt ST) (n : Nat) (L : xL) (st : List Value) (S : ST), nx cod_X4_countMinutes cut_X4_countMinutes K (n + 1) 49 L st S = (O_ald stW 0) (nx cod_X4_countMinutes cut_X4_countMinutes K n) 49 L st S) ∧
  (∀ (K : Kt ST) (n : Nat) (L : xL) (st : List Value) (S : ST), nx cod_X4_countMinutes cut_X4_countMinutes K (n + 1) 50 L st S = (O_iadd) (nx cod_X4_countMinutes cut_X4_countMinutes K n) 50 L st S) ∧
  (∀ (K : Kt ST) (n : Nat) (L : xL) (st : List Value) (S : ST), nx cod_X4_countMinutes cut_X4_countMinutes K (n + 1) 51 L st S = (O_icmp_le 58) (nx cod_X4_countMinutes cut_X4_countMinutes K n) 51 L st S) ∧
  (∀ (K : Kt ST) (n : Nat) (L : xL) (st : List Value) (S : ST), nx cod_X4_countMinutes cut_X4_countMinutes K (n + 1) 54 L st S = (O_int 1 1) (nx cod_X4_countMinutes cut_X4_countMinutes K n) 54 L st S) ∧
  (∀ (K : Kt ST) (n : Nat) (L : xL) (st : List Value) (S : ST), nx cod_X4_countMinutes cut_X4_countMinutes K (n + 1) 55 L st S = (O_goto 59) (nx cod_X4_countMinutes cut_X4_countMinutes K n) 55 L st S) ∧
  (∀ (K : Kt ST) (n : Nat) (L : xL) (st : List Value) (S : ST), nx cod_X4_countMinutes cut_X4_countMinutes K (n + 1) 58 L st S = (O_int 0 1) (nx cod_X4_countMinutes cut_X4_countMinutes K n) 58 L st S) ∧
  (∀ (K : Kt ST) (n : Nat) (L : xL) (st : List Value) (S : ST), nx cod_X4_countMinutes cut_X4_countMinutes K (n + 1) 59 L st S = (O_istore 3 1) (nx cod_X4_countMinutes cut_X4_countMinutes K n) 59 L st S) ∧
  (∀ (K : Kt ST) (n : Nat) (L : xL) (st : List Value) (S : ST), nx cod_X4_countMinutes cut_X4_countMinutes K (n + 1) 60 L st S = K 60 L st S) ∧
  (∀ (K : Kt ST) (n : Nat) (L : xL) (st : List Value) (S : ST), nx1 cod_X4_countMinutes cut_X4_countMinutes K n 60 L st S = (O_aload 0 1) (nx cod_X4_countMinutes cut_X4_countMinutes K n) 60 L st S) ∧
  (∀ (K : Kt ST) (n : Nat) (L : xL) (st : List Value) (S : ST), nx cod_X4_countMinutes cut_X4_countMinutes K (n + 1) 61 L st S = (O_getf stW 4 1) (nx cod_X4_countMinutes cut_X4_countMinutes K n) 61 L st S) ∧
  (∀ (K : Kt ST) (n : Nat) (L : xL) (st : List Value) (S : ST), nx cod_X4_countMinutes cut_X4_countMinutes K (n + 1) 64 L st S = (O_callV 0 2 (fun S : ST => S.P) (fun S u => S.sP u) sp_X3_hasVariable) (nx cod_X4_countMinutes cut_X4_countMinutes K n) 64 L st S) ∧
  (∀ (K : Kt ST) (n : Nat) (L : xL) (st : List Value) (S : ST), nx cod_X4_countMinutes cut_X4_countMinutes K (n + 1) 67 L st S = (O_if_ne 74) (nx cod_X4_countMinutes cut_X4_countMinutes K n) 67 L st S) ∧
  (∀ (K : Kt ST) (n : Nat) (L : xL) (st : List Value) (S : ST), nx cod_X4_countMinutes cut_X4_countMinutes K (n + 1) 70 L st S = (O_int 1 1) (nx cod_X4_countMinutes cut_X4_countMinutes K n) 70 L st S) ∧
  (∀ (K : Kt ST) (n : Nat) (L : xL) (st : List Value) (S : ST), nx cod_X4_countMinutes cut_X4_countMinutes K (n + 1) 71 L st S = (O_goto 75) (nx cod_X4_countMinutes cut_X4_countMinutes K n) 71 L st S) ∧
  (∀ (K : Kt ST) (n : Nat) (L : xL) (st : List Value) (S : ST), nx cod_X4_countMinutes cut_X4_countMinutes K (n + 1) 74 L st S = (O_int 0 1) (nx cod_X4_countMinutes cut_X4_countMinutes K n) 74 L st S) ∧
  (∀ (K : Kt ST) (n : Nat) (L : xL) (st : List Value) (S : ST), nx cod_X4_countMinutes cut_X4_countMinutes K (n + 1) 75 L st S = (O_istore 4 2) (nx cod_X4_countMinutes cut_X4_countMinutes K n) 75 L st S) ∧
  (∀ (K : Kt ST) (n : Nat) (L : xL) (st : List Value) (S : ST), nx cod_X4_countMinutes cut_X4_countMinutes K (n + 1) 77 L st S = K 77 L st S) ∧
  (∀ (K : Kt ST) (n : Nat) (L : xL) (st : List Value) (S : ST), nx1 cod_X4_countMinutes cut_X4_countMinutes K n 77 L st S = (O_aload 0 1) (nx cod_X4_countMinutes cut_X4_countMinutes K n) 77 L st S) ∧
  (∀ (K : Kt ST) (n : Nat) (L : xL) (st : List Value) (S : ST), nx cod_X4_countMinutes cut_X4_countMinutes K (n + 1) 78 L st S = (O_getf stW 4 1) (nx cod_X4_countMinutes cut_X4_countMinutes K n) 78 L st S) ∧
  (∀ (K : Kt ST) (n : Nat) (L : xL) (st : List Value) (S : ST), nx cod_X4_countMinutes cut_X4_countMinutes K (n + 1) 81 L st S = (O_int 1000 3) (nx cod_X4_countMinutes cut_X4_countMinutes K n) 81 L st S) ∧
  (∀ (K : Kt ST) (n : Nat) (L : xL) (st : List Value) (S : ST), nx cod_X4_countMinutes cut_X4_countMinutes K (n + 1) 84 L st S = (O_callV 1 2 (fun S : ST => S.P) (fun S u => S.sP u) sp_X3_variableAt) (nx cod_X4_countMinutes cut_X4_countMinutes K n) 84 L st S) ∧
  (∀ (K : Kt ST) (n : Nat) (L : xL) (st : List Value) (S : ST), nx cod_X4_countMinutes cut_X4_countMinutes K (n + 1) 87 L st S = (O_istore 5 2) (nx cod_X4_countMinutes cut_X4_countMinutes K n) 87 L st S) ∧
  (∀ (K : Kt ST) (n : Nat) (L : xL) (st : List Value) (S : ST), nx cod_X4_countMinutes cut_X4_countMinutes K (n + 1) 89 L st S = (O_aload 0 1) (nx cod_X4_countMinutes cut_X4_countMinutes K n) 89 L st S) ∧
  (∀ (K : Kt ST) (n : Nat) (L : xL) (st : List Value) (S : ST), nx cod_X4_countMinutes cut_X4_countMinutes K (n + 1) 90 L st S = (O_getf stW 4 1) (nx cod_X4_countMinutes cut_X4_countMinutes K n) 90 L st S) ∧
  (∀ (K : Kt ST) (n : Nat) (L : xL) (st : List Value) (S : ST), nx cod_X4_countMinutes cut_X4_countMinutes K (n + 1) 93 L st S = (O_aload 0 1) (nx cod_X4_countMinutes cut_X4_countMinutes K n) 93 L st S) ∧
  (∀ (K : Kt ST) (n : Nat) (L : xL) (st : List Value) (S : ST), nx cod_X4_countMinutes cut_X4_countMinutes K (n + 1) 94 L st S = (O_getf stW 4 0) (nx cod_X4_countMinutes cut_X4_countMinutes K n) 94 L st S) ∧
  (∀ (K : Kt ST) (n : Nat) (L : xL) (st : List Value) (S : ST), nx cod_X4_countMinutes cut_X4_countMinutes K (n + 1) 97 L st S = (O_int 4 1) (nx cod_X4_countMinutes cut_X4_countMinutes K n) 97 L st S) ∧
  (∀ (K : Kt ST) (n : Nat) (L : xL) (st : List Value) (S : ST), nx cod_X4_countMinutes cut_X4_countMinutes K (n + 1) 98 L st S = (O_ald stW 0) (nx cod_X4_countMinutes cut_X4_countMinutes K n) 98 L st S) ∧
  (∀ (K : Kt ST) (n : Nat) (L : xL) (st : List Value) (S : ST), nx cod_X4_countMinutes cut_X4_countMinutes K (n + 1) 99 L st S = (O_callV 1 2 (fun S : ST => S.P) (fun S u => S.sP u) sp_X3_variableAt) (nx cod_X4_countMinutes cut_X4_countMinutes K n) 99 L st S) ∧
  (∀ (K : Kt ST) (n : Nat) (L : xL) (st : List Value) (S : ST), nx cod_X4_countMinutes cut_X4_countMinutes K (n + 1) 102 L st S = (O_istore 6 2) (nx cod_X4_countMinutes cut_X4_countMinutes K n) 102 L st S) ∧
  (∀ (K : Kt ST) (n : Nat) (L : xL) (st : List Value) (S : ST), nx cod_X4_countMinutes cut_X4_countMinutes K (n + 1) 104 L st S = K 104 L st S) ∧
  (∀ (K : Kt ST) (n : Nat) (L : xL) (st : List Value) (S : ST), nx1 cod_X4_countMinutes cut_X4_countMinutes K n 104 L st S = (O_iload 1 1) (nx cod_X4_countMinutes cut_X4_countMinutes K n) 104 L st S) ∧
  (∀ (K : Kt ST) (n : Nat) (L : xL) (st : List Value) (S : ST), nx cod_X4_countMinutes cut_X4_countMinutes K (n + 1) 105 L st S = (O_if_le 126) (nx cod_X4_countMinutes cut_X4_countMinutes K n) 105 L st S) ∧
  (∀ (K : Kt ST) (n : Nat) (L : xL) (st : List Value) (S : ST), nx cod_X4_countMinutes cut_X4_countMinutes K (n + 1) 108 L st S = (O_iload 2 1) (nx cod_X4_countMinutes cut_X4_countMinutes K n) 108 L st S) ∧
  (∀ (K : Kt ST) (n : Nat) (L : xL) (st : List Value) (S : ST), nx cod_X4_countMinutes cut_X4_countMinutes K (n + 1) 109 L st S = (O_if_eq 126) (nx cod_X4_countMinutes cut_X4_countMinutes K n) 109 L st S) ∧
  (∀ (K : Kt ST) (n : Nat) (L : xL) (st : List Value) (S : ST), nx cod_X4_countMinutes cut_X4_countMinutes K (n + 1) 112 L st S = (O_iload 4 2) (nx cod_X4_countMinutes cut_X4_countMinutes K n) 112 L st S) ∧
  (∀ (K : Kt ST) (n : Nat) (L : xL) (st : List Value) (S : ST), nx cod_X4_countMinutes cut_X4_countMinutes K (n + 1) 114 L st S = (O_if_ne 122) (nx cod_X4_countMinutes cut_X4_countMinutes K n) 114 L st S) ∧
  (∀ (K : Kt ST) (n : Nat) (L : xL) (st : List Value) (S : ST), nx cod_X4_countMinutes cut_X4_countMinutes K (n + 1) 117 L st S = (O_iload 5 2) (nx cod_X4_countMinutes cut_X4_countMinutes K n) 117 L st S) ∧
  (∀ (K : Kt ST) (n : Nat) (L : xL) (st : List Value) (S : ST), nx cod_X4_countMinutes cut_X4_countMinutes K (n + 1) 119 L st S = (O_if_eq 126) (nx cod_X4_countMinutes cut_X4_countMinutes K n) 119 L st S) ∧
  (∀ (K : Kt ST) (n : Nat) (L : xL) (st : List Value) (S : ST), nx cod_X4_countMinutes cut_X4_countMinutes K (n + 1) 122 L st S = (O_int 1 1) (nx cod_X4_countMinutes cut_X4_countMinutes K n) 122 L st S) ∧
  (∀ (K : Kt ST) (n : Nat) (L : xL) (st : List Value) (S : ST), nx cod_X4_countMinutes cut_X4_countMinutes K (n + 1) 123 L st S = (O_goto 127) (nx cod_X4_countMinutes cut_X4_countMinutes K n) 123 L st S) ∧
  (∀ (K : Kt ST) (n : Nat) (L : xL) (st : List Value) (S : ST), nx cod_X4_countMinutes cut_X4_countMinutes K (n + 1) 126 L st S = (O_int 0 1) (nx cod_X4_countMinutes cut_X4_countMinutes K n) 126 L st S) ∧
  (∀ (K : Kt ST) (n : Nat) (L : xL) (st : List Value) (S : ST), nx cod_X4_countMinutes cut_X4_countMinutes K (n + 1) 127 L st S = (O_istore 7 2) (nx cod_X4_countMinutes cut_X4_countMinutes K n) 127 L st S) ∧
  (∀ (K : Kt ST) (n : Nat) (L : xL) (st : List Value) (S : ST), nx cod_X4_countMinutes cut_X4_countMinutes K (n + 1) 129 L st S = K 129 L st S) ∧
  (∀ (K : Kt ST) (n : Nat) (L : xL) (st : List Value) (S : ST), nx1 cod_X4_countMinutes cut_X4_countMinutes K n 129 L st S = (O_iload 1 1) (nx cod_X4_countMinutes cut_X4_countMinutes K n) 129 L st S) ∧
  (∀ (K : Kt ST) (n : Nat) (L : xL) (st : List Value) (S : ST), nx cod_X4_countMinutes cut_X4_countMinutes K (n + 1) 130 L st S = (O_if_le 151) (nx cod_X4_countMinutes cut_X4_countMinutes K n) 130 L st S) ∧
  (∀ (K : Kt ST) (n : Nat) (L : xL) (st : List Value) (S : ST), nx cod_X4_countMinutes cut_X4_countMinutes K (n + 1) 133 L st S = (O_iload 3 1) (nx cod_X4_countMinutes cut_X4_countMinutes K n) 133 L st S) ∧
  (∀ (K : Kt ST) (n : Nat) (L : xL) (st : List Value) (S : ST), nx cod_X4_countMinutes cut_X4_countMinutes K (n + 1) 134 L st S = (O_if_eq 151) (nx cod_X4_countMinutes cut_X4_countMinutes K n) 134 L st S) ∧
  (∀ (K : Kt ST) (n : Nat) (L : xL) (st : List Value) (S : ST), nx cod_X4_countMinutes cut_X4_countMinutes K (n + 1) 137 L st S = (O_iload 4 2) (nx cod_X4_countMinutes cut_X4_countMinutes K n) 137 L st S) ∧
  (∀ (K : Kt ST) (n : Nat) (L : xL) (st : List Value) (S : ST), nx cod_X4_countMinutes cut_X4_countMinutes K (n + 1) 139 L st S = (O_if_ne 147) (nx cod_X4_countMinutes cut_X4_countMinutes K n) 139 L st S) ∧
  (∀ (K : Kt ST) (n : Nat) (L : xL) (st : List Value) (S : ST), nx cod_X4_countMinutes cut_X4_countMinutes K (n + 1) 142 L st S = (O_iload 6 2) (nx cod_X4_countMinutes cut_X4_countMinutes K n) 142 L st S) ∧
  (∀ (K : Kt ST) (n : Nat) (L : xL) (st : List Value) (S : ST), nx cod_X4_countMinutes cut_X4_countMinutes K (n + 1) 144 L st S = (O_if_eq 151) (nx cod_X4_countMinutes cut_X4_countMinutes K n) 144 L st S) ∧
  (∀ (K : Kt ST) (n : Nat) (L : xL) (st : List Value) (S : ST), nx cod_X4_countMinutes cut_X4_countMinutes K (n + 1) 147 L st S = (O_int 1 1) (nx cod_X4_countMinutes cut_X4_countMinutes K n) 147 L st S) ∧
  (∀ (K : Kt ST) (n : Nat) (L : xL) (st : List Value) (S : ST), nx cod_X4_countMinutes cut_X4_countMinutes K (n + 1) 148 L st S = (O_goto 152) (nx cod_X4_countMinutes cut_X4_countMinutes K n) 148 L st S) ∧
  (∀ (K : Kt ST) (n : Nat) (L : xL) (st : List Value) (S : ST), nx cod_X4_countMinutes cut_X4_countMinutes K (n + 1) 151 L st S = (O_int 0 1) (nx cod_X4_countMinutes cut_X4_countMinutes K n) 151 L st S) ∧
  (∀ (K : Kt ST) (n : Nat) (L : xL) (st : List Value) (S : ST), nx cod_X4_countMinutes cut_X4_countMinutes K (n + 1) 152 L st S = (O_istore 8 2) (nx cod_X4_countMinutes cut_X4_countMinutes K n) 152 L st S) ∧
  (∀ (K : Kt ST) (n : Nat) (L : xL) (st : List Value) (S : ST), nx cod_X4_countMinutes cut_X4_countMinutes K (n + 1) 154 L st S = K 154 L st S) ∧
  (∀ (K : Kt ST) (n : Nat) (L : xL) (st : List Value) (S : ST), nx1 cod_X4_countMinutes cut_X4_countMinutes K n 154 L st S = (O_iload 1 1) (nx cod_X4_countMinutes cut_X4_countMinutes K n) 154 L st S) ∧
  (∀ (K : Kt ST) (n : Nat) (L : xL) (st : List Value) (S : ST), nx cod_X4_countMinutes cut_X4_countMinutes K (n + 1) 155 L st S = (O_int 1 1) (nx cod_X4_countMinutes cut_X4_countMinutes K n) 155 L st S) ∧
  (∀ (K : Kt ST) (n : Nat) (L : xL) (st : List Value) (S : ST), nx cod_X4_countMinutes cut_X4_countMinutes K (n + 1) 156 L st S = (O_icmp_ne 182) (nx cod_X4_countMinutes cut_X4_countMinutes K n) 156 L st S) ∧
  (∀ (K : Kt ST) (n : Nat) (L : xL) (st : List Value) (S : ST), nx cod_X4_countMinutes cut_X4_countMinutes K (n + 1) 159 L st S = (O_iload 6 2) (nx cod_X4_countMinutes cut_X4_countMinutes K n) 159 L st S) ∧
  (∀ (K : Kt ST) (n : Nat) (L : xL) (st : List Value) (S : ST), nx cod_X4_countMinutes cut_X4_countMinutes K (n + 1) 161 L st S = (O_if_eq 182) (nx cod_X4_countMinutes cut_X4_countMinutes K n) 161 L st S) ∧
  (∀ (K : Kt ST) (n : Nat) (L : xL) (st : List Value) (S : ST), nx cod_X4_countMinutes cut_X4_countMinutes K (n + 1) 164 L st S = (O_aload 0 1) (nx cod_X4_countMinutes cut_X4_countMinutes K n) 164 L st S) ∧
  (∀ (K : Kt ST) (n : Nat) (L : xL) (st : List Value) (S : ST), nx cod_X4_countMinutes cut_X4_countMinutes K (n + 1) 165 L st S = (O_getf stW 4 9) (nx cod_X4_countMinutes cut_X4_countMinutes K n) 165 L st S) ∧
  (∀ (K : Kt ST) (n : Nat) (L : xL) (st : List Value) (S : ST), nx cod_X4_countMinutes cut_X4_countMinutes K (n + 1) 168 L st S = (O_aload 0 1) (nx cod_X4_countMinutes cut_X4_countMinutes K n) 168 L st S) ∧
  (∀ (K : Kt ST) (n : Nat) (L : xL) (st : List Value) (S : ST), nx cod_X4_countMinutes cut_X4_countMinutes K (n + 1) 169 L st S = (O_getf stW 4 0) (nx cod_X4_countMinutes cut_X4_countMinutes K n) 169 L st S) ∧
  (∀ (K : Kt ST) (n : Nat) (L : xL) (st : List Value) (S : ST), nx cod_X4_countMinutes cut_X4_countMinutes K (n + 1) 172 L st S = (O_int 7 2) (nx cod_X4_countMinutes cut_X4_countMinutes K n) 172 L st S) ∧
  (∀ (K : Kt ST) (n : Nat) (L : xL) (st : List Value) (S : ST), nx cod_X4_countMinutes cut_X4_countMinutes K (n + 1) 174 L st S = (O_ald stW 0) (nx cod_X4_countMinutes cut_X4_countMinutes K n) 174 L st S) ∧
  (∀ (K : Kt ST) (n : Nat) (L : xL) (st : List Value) (S : ST), nx cod_X4_countMinutes cut_X4_countMinutes K (n + 1) 175 L st S = (O_icmp_ge 182) (nx cod_X4_countMinutes cut_X4_countMinutes K n) 175 L st S) ∧
  (∀ (K : Kt ST) (n : Nat) (L : xL) (st : List Value) (S : ST), nx cod_X4_countMinutes cut_X4_countMinutes K (n + 1) 178 L st S = (O_int 1 1) (nx cod_X4_countMinutes cut_X4_countMinutes K n) 178 L st S) ∧
  (∀ (K : Kt ST) (n : Nat) (L : xL) (st : List Value) (S : ST), nx cod_X4_countMinutes cut_X4_countMinutes K (n + 1) 179 L st S = (O_goto 183) (nx cod_X4_countMinutes cut_X4_countMinutes K n) 179 L st S) ∧
  (∀ (K : Kt ST) (n : Nat) (L : xL) (st : List Value) (S : ST), nx cod_X4_countMinutes cut_X4_countMinutes K (n + 1) 182 L st S = (O_int 0 1) (nx cod_X4_countMinutes cut_X4_countMinutes K n) 182 L st S) ∧
  (∀ (K : Kt ST) (n : Nat) (L : xL) (st : List Value) (S : ST), nx cod_X4_countMinutes cut_X4_countMinutes K (n + 1) 183 L st S = (O_istore 9 2) (nx cod_X4_countMinutes cut_X4_countMinutes K n) 183 L st S) ∧
  (∀ (K : Kt ST) (n : Nat) (L : xL) (st : List Value) (S : ST), nx cod_X4_countMinutes cut_X4_countMinutes K (n + 1) 185 L st S = K 185 L st S) ∧
  (∀ (K : Kt ST) (n : Nat) (L : xL) (st : List Value) (S : ST), nx1 cod_X4_countMinutes cut_X4_countMinutes K n 185 L st S = (O_aload 0 1) (nx cod_X4_countMinutes cut_X4_countMinutes K n) 185 L st S) ∧
  (∀ (K : Kt ST) (n : Nat) (L : xL) (st : List Value) (S : ST), nx cod_X4_countMinutes cut_X4_countMinutes K (n + 1) 186 L st S = (O_iload 7 2) (nx cod_X4_countMinutes cut_X4_countMinutes K n) 186 L st S) ∧
  (∀ (K : Kt ST) (n : Nat) (L : xL) (st : List Value) (S : ST), nx cod_X4_countMinutes cut_X4_countMinutes K (n + 1) 188 L st S = (O_if_eq 200) (nx cod_X4_countMinutes cut_X4_countMinutes K n) 188 L st S) ∧
  (∀ (K : Kt ST) (n : Nat) (L : xL) (st : List Value) (S : ST), nx cod_X4_countMinutes cut_X4_countMinutes K (n + 1) 191 L st S = (O_aload 0 1) (nx cod_X4_countMinutes cut_X4_countMinutes K n) 191 L st S) ∧
  (∀ (K : Kt ST) (n : Nat) (L : xL) (st : List Value) (S : ST), nx cod_X4_countMinutes cut_X4_countMinutes K (n + 1) 192 L st S = (O_getf stW 4 14) (nx cod_X4_countMinutes cut_X4_countMinutes K n) 192 L st S) ∧
  (∀ (K : Kt ST) (n : Nat) (L : xL) (st : List Value) (S : ST), nx cod_X4_countMinutes cut_X4_countMinutes K (n + 1) 195 L st S = (O_int 1 1) (nx cod_X4_countMinutes cut_X4_countMinutes K n) 195 L st S) ∧
  (∀ (K : Kt ST) (n : Nat) (L : xL) (st : List Value) (S : ST), nx cod_X4_countMinutes cut_X4_countMinutes K (n + 1) 196 L st S = (O_iadd) (nx cod_X4_countMinutes cut_X4_countMinutes K n) 196 L st S) ∧
  (∀ (K : Kt ST) (n : Nat) (L : xL) (st : List Value) (S : ST), nx cod_X4_countMinutes cut_X4_countMinutes K (n + 1) 197 L st S = (O_goto 201) (nx cod_X4_countMinutes cut_X4_countMinutes K n) 197 L st S) ∧
  (∀ (K : Kt ST) (n : Nat) (L : xL) (st : List Value) (S : ST), nx cod_X4_countMinutes cut_X4_countMinutes K (n + 1) 200 L st S = (O_int 0 1) (nx cod_X4_countMinutes cut_X4_countMinutes K n) 200 L st S) ∧
  (∀ (K : Kt ST) (n : Nat) (L : xL) (st : List Value) (S : ST), nx cod_X4_countMinutes cut_X4_countMinutes K (n + 1) 201 L st S = (O_puti stW_p4_14) (nx cod_X4_countMinutes cut_X4_countMinutes K n) 201 L st S) ∧
  (∀ (K : Kt ST) (n : Nat) (L : xL) (st : List Value) (S : ST), nx cod_X4_countMinutes cut_X4_countMinutes K (n + 1) 204 L st S = K 204 L st S) ∧
  (∀ (K : Kt ST) (n : Nat) (L : xL) (st : List Value) (S : ST), nx1 cod_X4_countMinutes cut_X4_countMinutes K n 204 L st S = (O_aload 0 1) (nx cod_X4_countMinutes cut_X4_countMinutes K n) 204 L st S) ∧
  (∀ (K : Kt ST) (n : Nat) (L : xL) (st : List Value) (S : ST), nx cod_X4_countMinutes cut_X4_countMinutes K (n + 1) 205 L st S = (O_iload 8 2) (nx cod_X4_countMinutes cut_X4_countMinutes K n) 205 L st S) ∧
  (∀ (K : Kt ST) (n : Nat) (L : xL) (st : List Value) (S : ST), nx cod_X4_countMinutes cut_X4_countMinutes K (n + 1) 207 L st S = (O_if_eq 219) (nx cod_X4_countMinutes cut_X4_countMinutes K n) 207 L st S) ∧
  (∀ (K : Kt ST) (n : Nat) (L : xL) (st : List Value) (S : ST), nx cod_X4_countMinutes cut_X4_countMinutes K (n + 1) 210 L st S = (O_aload 0 1) (nx cod_X4_countMinutes cut_X4_countMinutes K n) 210 L st S) ∧
  (∀ (K : Kt ST) (n : Nat) (L : xL) (st : List Value) (S : ST), nx cod_X4_countMinutes cut_X4_countMinutes K (n + 1) 211 L st S = (O_getf stW 4 15) (nx cod_X4_countMinutes cut_X4_countMinutes K n) 211 L st S) ∧
  (∀ (K : Kt ST) (n : Nat) (L : xL) (st : List Value) (S : ST), nx cod_X4_countMinutes cut_X4_countMinutes K (n + 1) 214 L st S = (O_int 1 1) (nx cod_X4_countMinutes cut_X4_countMinutes K n) 214 L st S) ∧
  (∀ (K : Kt ST) (n : Nat) (L : xL) (st : List Value) (S : ST), nx cod_X4_countMinutes cut_X4_countMinutes K (n + 1) 215 L st S = (O_iadd) (nx cod_X4_countMinutes cut_X4_countMinutes K n) 215 L st S) ∧
  (∀ (K : Kt ST) (n : Nat) (L : xL) (st : List Value) (S : ST), nx cod_X4_countMinutes cut_X4_countMinutes K (n + 1) 216 L st S = (O_goto 220) (nx cod_X4_countMinutes cut_X4_countMinutes K n) 216 L st S) ∧
  (∀ (K : Kt ST) (n : Nat) (L : xL) (st : List Value) (S : ST), nx cod_X4_countMinutes cut_X4_countMinutes K (n + 1) 219 L st S = (O_int 0 1) (nx cod_X4_countMinutes cut_X4_countMinutes K n) 219 L st S) ∧
  (∀ (K : Kt ST) (n : Nat) (L : xL) (st : List Value) (S : ST), nx cod_X4_countMinutes cut_X4_countMinutes K (n + 1) 220 L st S = (O_puti stW_p4_15) (nx cod_X4_countMinutes cut_X4_countMinutes K n) 220 L st S) ∧
  (∀ (K : Kt ST) (n : Nat) (L : xL) (st : List Value) (S : ST), nx cod_X4_countMinutes cut_X4_countMinutes K (n + 1) 223 L st S = K 223 L st S) ∧
  (∀ (K : Kt ST) (n : Nat) (L : xL) (st : List Value) (S : ST), nx1 cod_X4_countMinutes cut_X4_countMinutes K n 223 L st S = (O_aload 0 1) (nx cod_X4_countMinutes cut_X4_countMinutes K n) 223 L st S) ∧
  (∀ (K : Kt ST) (n : Nat) (L : xL) (st : List Value) (S : ST), nx cod_X4_countMinutes cut_X4_countMinutes K (n + 1) 224 L st S = (O_iload 9 2) (nx cod_X4_countMinutes cut_X4_countMinutes K n) 224 L st S) ∧
  (∀ (K : Kt ST) (n : Nat) (L : xL) (st : List Value) (S : ST), nx cod_X4_countMinutes cut_X4_countMinutes K (n + 1) 226 L st S = (O_if_eq 238) (nx cod_X4_countMinutes cut_X4_countMinutes K n) 226 L st S) ∧
  (∀ (K : Kt ST) (n : Nat) (L : xL) (st : List Value) (S : ST), nx cod_X4_countMinutes cut_X4_countMinutes K (n + 1) 229 L st S = (O_aload 0 1) (nx cod_X4_countMinutes cut_X4_countMinutes K n) 229 L st S) ∧
  (∀ (K : Kt ST) (n : Nat) (L : xL) (st : List Value) (S : ST), nx cod_X4_countMinutes cut_X4_countMinutes K (n + 1) 230 L st S = (O_getf stW 4 16) (nx cod_X4_countMinutes cut_X4_countMinutes K n) 230 L st S) ∧
  (∀ (K : Kt ST) (n : Nat) (L : xL) (st : List Value) (S : ST), nx cod_X4_countMinutes cut_X4_countMinutes K (n + 1) 233 L st S = (O_int 1 1) (nx cod_X4_countMinutes cut_X4_countMinutes K n) 233 L st S) ∧
  (∀ (K : Kt ST) (n : Nat) (L : xL) (st : List Value) (S : ST), nx cod_X4_countMinutes cut_X4_countMinutes K (n + 1) 234 L st S = (O_iadd) (nx cod_X4_countMinutes cut_X4_countMinutes K n) 234 L st S) ∧
  (∀ (K : Kt ST) (n : Nat) (L : xL) (st : List Value) (S : ST), nx cod_X4_countMinutes cut_X4_countMinutes K (n + 1) 235 L st S = (O_goto 239) (nx cod_X4_countMinutes cut_X4_countMinutes K n) 235 L st S) ∧
  (∀ (K : Kt ST) (n : Nat) (L : xL) (st : List Value) (S : ST), nx cod_X4_countMinutes cut_X4_countMinutes K (n + 1) 238 L st S = (O_int 0 1) (nx cod_X4_countMinutes cut_X4_countMinutes K n) 238 L st S) ∧
  (∀ (K : Kt ST) (n : Nat) (L : xL) (st : List Value) (S : ST), nx cod_X4_countMinutes cut_X4_countMinutes K (n + 1) 239 L st S = (O_puti stW_p4_16) (nx cod_X4_countMinutes cut_X4_countMinutes K n) 239 L st S) ∧
  (∀ (K : Kt ST) (n : Nat) (L : xL) (st : List Value) (S : ST), nx cod_X4_countMinutes cut_X4_countMinutes K (n + 1) 242 L st S = (O_vret) (nx cod_X4_countMinutes cut_X4_countMinutes K n) 242 L st S) ∧
  (∀ (K : Kt ST) (n : Nat) (L : xL) (st : List Value) (S : ST), nx cod_X4_countMinutes cut_X4_countMinutes K (n + 1) 100000 L st S = K 100000 L st S) := by
  repeat' apply And.intro
  all_goals (intros; rfl)
set_option maxRecDepth 100000 in
theorem mk_X4_countMinutes {P P' : ST} {r : Option Value}  (body : ∀ E : En, CodOk E stW cod_X4_countMinutes → Gd E stW 100000 [] r.toList P' → Gd E stW 0 [some (.ref 0), none, none, none, none, none, none, none, none, none] [] P) : Con yX4_countMinutes cX4_countMinutes 10 none 2 stW [.ref 0] P r P' :=
  Con.of (by decide) rfl rfl (Nat.le_of_ble_eq_true rfl) (fun E F G hr => body E (okc_X4_countMinutes F G) hr)
theorem con_X4_countMinutes (S : ST)  (hp : S.P.ok) : Con yX4_countMinutes cX4_countMinutes 10 none 2 stW [.ref 0] S (none) (S.cnt) := by
  refine mk_X4_countMinutes (fun E C hr => ?_)
  have h223 : Gd E stW 223 [some (.ref 0), some (.int S.P.running), some (.int (bI S.low)), some (.int (bI S.high)), some (.int (bI S.wo)), some (.int (bI (S.P.vAt 1000))), some (.int (bI (S.P.vAt (S.settings 4)))), some (.int (bI S.gStart)), some (.int (bI S.gStop)), some (.int (bI S.gSleep))] [] ((S.sToStart (if S.gStart = true then S.toStart + 1 else 0)).sToStop (if S.gStop = true then S.toStop + 1 else 0)) := by
    (refine nx1_ok C cut_X4_countMinutes 1000 ?_; simp only [w_X4_countMinutes, ops_eq, xst_eq, call_eq, oK_eq, Option.toList_some, Option.toList_none, List.cons_append, List.nil_append, List.length_cons, List.length_nil, true_and, and_true, Nat.reduceAdd, stW_F, stW_A, stW_S, stW_P, ST_id, ST_gs, PT_gs, ZT_gs, NT_gs, ET_gs, se_X3_running, se_X3_hasVariable, se_X3_variableAt, bI_eq])
    ((repeat' (with_reducible first | apply And.intro | intro _)) <;> simp_all [ST.cnt, ST_id, ST_gs, PT_gs, ZT_gs, NT_gs, ET_gs])
  have h204 : Gd E stW 204 [some (.ref 0), some (.int S.P.running), some (.int (bI S.low)), some (.int (bI S.high)), some (.int (bI S.wo)), some (.int (bI (S.P.vAt 1000))), some (.int (bI (S.P.vAt (S.settings 4)))), some (.int (bI S.gStart)), some (.int (bI S.gStop)), some (.int (bI S.gSleep))] [] (S.sToStart (if S.gStart = true then S.toStart + 1 else 0)) := by
    (refine nx1_ok C cut_X4_countMinutes 1000 ?_; simp only [w_X4_countMinutes, ops_eq, xst_eq, call_eq, oK_eq, Option.toList_some, Option.toList_none, List.cons_append, List.nil_append, List.length_cons, List.length_nil, true_and, and_true, Nat.reduceAdd, stW_F, stW_A, stW_S, stW_P, ST_id, ST_gs, PT_gs, ZT_gs, NT_gs, ET_gs, se_X3_running, se_X3_hasVariable, se_X3_variableAt, bI_eq])
    ((repeat' (with_reducible first | apply And.intro | intro _)) <;> simp_all [ST_id, ST_gs, PT_gs, ZT_gs, NT_gs, ET_gs])
  have h185 : Gd E stW 185 [some (.ref 0), some (.int S.P.running), some (.int (bI S.low)), some (.int (bI S.high)), some (.int (bI S.wo)), some (.int (bI (S.P.vAt 1000))), some (.int (bI (S.P.vAt (S.settings 4)))), some (.int (bI S.gStart)), some (.int (bI S.gStop)), some (.int (bI S.gSleep))] [] S := by
    (refine nx1_ok C cut_X4_countMinutes 1000 ?_; simp only [w_X4_countMinutes, ops_eq, xst_eq, call_eq, oK_eq, Option.toList_some, Option.toList_none, List.cons_append, List.nil_append, List.length_cons, List.length_nil, true_and, and_true, Nat.reduceAdd, stW_F, stW_A, stW_S, stW_P, ST_id, ST_gs, PT_gs, ZT_gs, NT_gs, ET_gs, se_X3_running, se_X3_hasVariable, se_X3_variableAt, bI_eq])
    ((repeat' (with_reducible first | apply And.intro | intro _)) <;> simp_all [ST_id, ST_gs, PT_gs, ZT_gs, NT_gs, ET_gs])
  have h154 : Gd E stW 154 [some (.ref 0), some (.int S.P.running), some (.int (bI S.low)), some (.int (bI S.high)), some (.int (bI S.wo)), some (.int (bI (S.P.vAt 1000))), some (.int (bI (S.P.vAt (S.settings 4)))), some (.int (bI S.gStart)), some (.int (bI S.gStop)), none] [] S := by
    (refine nx1_ok C cut_X4_countMinutes 1000 ?_; simp only [w_X4_countMinutes, ops_eq, xst_eq, call_eq, oK_eq, Option.toList_some, Option.toList_none, List.cons_append, List.nil_append, List.length_cons, List.length_nil, true_and, and_true, Nat.reduceAdd, stW_F, stW_A, stW_S, stW_P, ST_id, ST_gs, PT_gs, ZT_gs, NT_gs, ET_gs, se_X3_running, se_X3_hasVariable, se_X3_variableAt, bI_eq, v19_eq, cl_eq])
    ((repeat' (with_reducible first | apply And.intro | intro _)) <;> simp_all [ST.gSleep, bI, ST_id, ST_gs, PT_gs, ZT_gs, NT_gs, ET_gs])
  have h129 : Gd E stW 129 [some (.ref 0), some (.int S.P.running), some (.int (bI S.low)), some (.int (bI S.high)), some (.int (bI S.wo)), some (.int (bI (S.P.vAt 1000))), some (.int (bI (S.P.vAt (S.settings 4)))), some (.int (bI S.gStart)), none, none] [] S := by
    (refine nx1_ok C cut_X4_countMinutes 1000 ?_; simp only [w_X4_countMinutes, ops_eq, xst_eq, call_eq, oK_eq, Option.toList_some, Option.toList_none, List.cons_append, List.nil_append, List.length_cons, List.length_nil, true_and, and_true, Nat.reduceAdd, stW_F, stW_A, stW_S, stW_P, ST_id, ST_gs, PT_gs, ZT_gs, NT_gs, ET_gs, se_X3_running, se_X3_hasVariable, se_X3_variableAt, bI_eq])
    ((repeat' (with_reducible first | apply And.intro | intro _)) <;> simp_all [ST.gStop, bI, ST_id, ST_gs, PT_gs, ZT_gs, NT_gs, ET_gs])
  have h104 : Gd E stW 104 [some (.ref 0), some (.int S.P.running), some (.int (bI S.low)), some (.int (bI S.high)), some (.int (bI S.wo)), some (.int (bI (S.P.vAt 1000))), some (.int (bI (S.P.vAt (S.settings 4)))), none, none, none] [] S := by
    (refine nx1_ok C cut_X4_countMinutes 1000 ?_; simp only [w_X4_countMinutes, ops_eq, xst_eq, call_eq, oK_eq, Option.toList_some, Option.toList_none, List.cons_append, List.nil_append, List.length_cons, List.length_nil, true_and, and_true, Nat.reduceAdd, stW_F, stW_A, stW_S, stW_P, ST_id, ST_gs, PT_gs, ZT_gs, NT_gs, ET_gs, se_X3_running, se_X3_hasVariable, se_X3_variableAt, bI_eq])
    ((repeat' (with_reducible first | apply And.intro | intro _)) <;> simp_all [ST.gStart, bI, ST_id, ST_gs, PT_gs, ZT_gs, NT_gs, ET_gs])
  have h77 : Gd E stW 77 [some (.ref 0), some (.int S.P.running), some (.int (bI S.low)), some (.int (bI S.high)), some (.int (bI S.wo)), none, none, none, none, none] [] S := by
    (refine nx1_ok C cut_X4_countMinutes 1000 ?_; simp only [w_X4_countMinutes, ops_eq, xst_eq, call_eq, oK_eq, Option.toList_some, Option.toList_none, List.cons_append, List.nil_append, List.length_cons, List.length_nil, true_and, and_true, Nat.reduceAdd, stW_F, stW_A, stW_S, stW_P, ST_id, ST_gs, PT_gs, ZT_gs, NT_gs, ET_gs, se_X3_running, se_X3_hasVariable, se_X3_variableAt, bI_eq, v19_eq, cl_eq])
    ((repeat' (with_reducible first | apply And.intro | intro _)) <;> simp_all [ST_id, ST_gs, PT_gs, ZT_gs, NT_gs, ET_gs])
  have h60 : Gd E stW 60 [some (.ref 0), some (.int S.P.running), some (.int (bI S.low)), some (.int (bI S.high)), none, none, none, none, none, none] [] S := by
    (refine nx1_ok C cut_X4_countMinutes 1000 ?_; simp only [w_X4_countMinutes, ops_eq, xst_eq, call_eq, oK_eq, Option.toList_some, Option.toList_none, List.cons_append, List.nil_append, List.length_cons, List.length_nil, true_and, and_true, Nat.reduceAdd, stW_F, stW_A, stW_S, stW_P, ST_id, ST_gs, PT_gs, ZT_gs, NT_gs, ET_gs, se_X3_running, se_X3_hasVariable, se_X3_variableAt, bI_eq])
    ((repeat' (with_reducible first | apply And.intro | intro _)) <;> simp_all [ST.wo, bI, ST_id, ST_gs, PT_gs, ZT_gs, NT_gs, ET_gs])
  have h34 : Gd E stW 34 [some (.ref 0), some (.int S.P.running), some (.int (bI S.low)), none, none, none, none, none, none, none] [] S := by
    (refine nx1_ok C cut_X4_countMinutes 1000 ?_; simp only [w_X4_countMinutes, ops_eq, xst_eq, call_eq, oK_eq, Option.toList_some, Option.toList_none, List.cons_append, List.nil_append, List.length_cons, List.length_nil, true_and, and_true, Nat.reduceAdd, stW_F, stW_A, stW_S, stW_P, ST_id, ST_gs, PT_gs, ZT_gs, NT_gs, ET_gs, se_X3_running, se_X3_hasVariable, se_X3_variableAt, v19_eq, cl_eq])
    ((repeat' (with_reducible first | apply And.intro | intro _)) <;> simp_all [ST.high, bI, ST_id, ST_gs, PT_gs, ZT_gs, NT_gs, ET_gs])
  (refine nx_ok C (cuts := cut_X4_countMinutes) 1000 _ _ _ _ ?_; simp only [w_X4_countMinutes, ops_eq, xst_eq, call_eq, oK_eq, Option.toList_some, Option.toList_none, List.cons_append, List.nil_append, List.length_cons, List.length_nil, true_and, and_true, Nat.reduceAdd, stW_F, stW_A, stW_S, stW_P, ST_id, ST_gs, PT_gs, ZT_gs, NT_gs, ET_gs, se_X3_running, se_X3_hasVariable, se_X3_variableAt, v19_eq, cl_eq])
  ((repeat' (with_reducible first | apply And.intro | intro _)) <;> simp_all [ST.low, bI, ST_id, ST_gs, PT_gs, ZT_gs, NT_gs, ET_gs])
def sp_X4_countMinutes : Sp ST := fun av S K => match av with
  | [.ref 0] => (S.P.ok) ∧ K (none) (S.cnt)
  | _ => False
theorem se_X4_countMinutes  (S : ST) (K : Option Value → ST → Prop) : sp_X4_countMinutes [.ref 0] S K = ((S.P.ok) ∧ K (none) (S.cnt)) := rfl
theorem spok_X4_countMinutes : SpOk yX4_countMinutes cX4_countMinutes 10 none 2 stW sp_X4_countMinutes := by
  intro av S K h
  unfold sp_X4_countMinutes at h
  split at h
  · exact ⟨none, S.cnt, trivial, con_X4_countMinutes S  h.1, h.2⟩
  · exact h.elim
