/-! ===== the reference: water, nights ===== -/
theorem it_pair {α β : Type} (f : Nat → α → α) (g : Nat → β → β) (a : α) (b : β) : ∀ n, it (fun i (q : α × β) => (f i q.1, g i q.2)) (a, b) n = (it f a n, it g b n)
  | 0 => rfl
  | n + 1 => by rw [it, it, it, it_pair f g a b n]
/-- what counting minutes leaves -/
def PT.same (S T : PT) : Prop := T.size = S.size ∧ T.kinds = S.kinds ∧ T.shutoffs = S.shutoffs ∧ T.steeps = S.steeps ∧ T.speeds = S.speeds
theorem PT.cm_same {S T : PT} (h : S.same T) (i : Nat) : S.same (PT.cm i T) := by
  unfold PT.cm
  split <;> exact h
theorem PT.flowOf_same {S T : PT} (h : S.same T) (i : Nat) (sp pr : Int32) : T.flowOf i sp pr = S.flowOf i sp pr := by
  unfold PT.flowOf
  rw [h.2.2.1, h.2.2.2.1]
theorem PT.flowOf_0 {S : PT} (i : Nat) {pr : Int32} (h : ¬ pr < 0) : S.flowOf i 0 pr = 0 := by
  unfold PT.flowOf
  rw [if_pos]
  left
  rw [show S.shutoffs i * 0 * 0 / 1000000 = 0 by simp]
  exact h
theorem run_rng {S : PT} {i : Nat} (h : rng (S.speeds i) 0 1000) (hr : S.run i = false) : S.speeds i = 0 := by
  simp only [PT.run, decide_eq_false_iff_not, Int32.lt_iff_toInt_lt, iz.1] at hr
  apply Int32.toInt_inj.mp
  unfold rng at h
  rw [iz.1]
  omega
theorem demand_eq : (∀ (S : ST) (x : Int32), (S.sSupply x).demand = S.demand) ∧ (∀ (S : ST) (x : Int32), (S.sAllSupplied x).demand = S.demand) ∧ (∀ (S : ST) (x : Int32), (S.sLevel x).demand = S.demand) ∧ (∀ (S : ST) (x : PT), (S.sP x).demand = S.demand) := ⟨fun _ _ => rfl, fun _ _ => rfl, fun _ _ => rfl, fun _ _ => rfl⟩
theorem ST.water_eq {S : ST} {n : Nat} (h : S.inv n) : S.water = ((((S.sP S.P.countM).sSupply S.sup).sAllSupplied (S.allSupplied + S.sup)).sLevel (wit (S.level - S.sup + S.settings 14) 0 20000)).sPressure (wit (S.pressure + (S.sup - S.demand) / S.settings 10) 0 2000) := by
  have h1 : 0 < S.settings 10 := rng_lt h.2.2.2.2.1.2.2.2.2.1 (by decide)
  have h2 := ST.lvl_rng h
  have h3 : S.newLevel S.sup = wit (S.level - S.sup + S.settings 14) 0 20000 := by
    unfold ST.newLevel wit
    unfold rng at h2
    simp only [Int32.lt_iff_toInt_lt, iz]
    (repeat' split) <;> first | rfl | (apply Int32.toInt_inj.mp; simp only [iz]; omega) | omega
  unfold ST.water
  rw [if_pos h1, ← h3, wit_hold (by decide)]
  rfl
def cod_X7_water : List (Nat × Op QT) := [(0, O_int 0 1), (1, O_istore 1 1), (2, O_int 0 1), (3, O_istore 2 1), (4, O_iload 2 1), (5, O_aload 0 1), (6, O_getf aW 7 0), (9, O_int 14 2), (11, O_ald aW 0), (12, O_icmp_ge 79), (15, O_aload 0 1), (16, O_iload 2 1), (17, O_callV 1 0 (fun S => S) (fun _ S' => S') sp_X7_runs), (20, O_if_eq 73), (23, O_iload 1 1), (24, O_aload 0 1), (25, O_iload 2 1), (26, O_aload 0 1), (27, O_iload 2 1), (28, O_int 4 1), (29, O_callV 2 0 (fun S => S) (fun _ S' => S') sp_X7_of), (32, O_aload 0 1), (33, O_getf aW 7 0), (36, O_int 1 1), (37, O_ald aW 0), (38, O_callV 3 0 (fun S => S) (fun _ S' => S') sp_X7_flow), (41, O_iadd), (42, O_istore 1 1), (43, O_aload 0 1), (44, O_iload 2 1), (45, O_int 5 1), (46, O_aload 0 1), (47, O_iload 2 1), (48, O_int 5 1), (49, O_callV 2 0 (fun S => S) (fun _ S' => S') sp_X7_of), (52, O_int 1 1), (53, O_iadd), (54, O_callV 3 0 (fun S => S) (fun _ S' => S') sp_X7_put), (57, O_aload 0 1), (58, O_iload 2 1), (59, O_int 6 2), (61, O_aload 0 1), (62, O_iload 2 1), (63, O_int 6 2), (65, O_callV 2 0 (fun S => S) (fun _ S' => S') sp_X7_of), (68, O_int 1 1), (69, O_iadd), (70, O_callV 3 0 (fun S => S) (fun _ S' => S') sp_X7_put), (73, O_iinc 2 1), (76, O_goto 4), (79, O_iload 1 1), (80, O_aload 0 1), (81, O_getf aW 7 0), (84, O_int 2 1), (85, O_ald aW 0), (86, O_icmp_le 98), (89, O_aload 0 1), (90, O_getf aW 7 0), (93, O_int 2 1), (94, O_ald aW 0), (95, O_goto 99), (98, O_iload 1 1), (99, O_istore 1 1), (100, O_aload 0 1), (101, O_getf aW 7 0), (104, O_int 3 1), (105, O_iload 1 1), (106, O_asti aW aW_wi), (107, O_aload 0 1), (108, O_getf aW 7 0), (111, O_int 13 2), (113, O_dup2), (114, O_ald aW 0), (115, O_iload 1 1), (116, O_iadd), (117, O_asti aW aW_wi), (118, O_aload 0 1), (119, O_getf aW 7 0), (122, O_int 2 1), (123, O_aload 0 1), (124, O_getf aW 7 0), (127, O_int 2 1), (128, O_ald aW 0), (129, O_iload 1 1), (130, O_isub), (131, O_aload 0 1), (132, O_int 14 2), (134, O_callV 1 0 (fun S => S) (fun _ S' => S') sp_X7_setting), (137, O_iadd), (138, O_int 0 1), (139, O_int 20000 3), (142, O_callS 3 sp_X7_within), (145, O_asti aW aW_wi), (146, O_aload 0 1), (147, O_getf aW 7 0), (150, O_int 1 1), (151, O_aload 0 1), (152, O_getf aW 7 0), (155, O_int 1 1), (156, O_ald aW 0), (157, O_iload 1 1), (158, O_aload 0 1), (159, O_callV 0 0 (fun S => S) (fun _ S' => S') sp_X7_demand), (162, O_isub), (163, O_aload 0 1), (164, O_int 10 2), (166, O_callV 1 0 (fun S => S) (fun _ S' => S') sp_X7_setting), (169, O_idiv), (170, O_iadd), (171, O_int 0 1), (172, O_int 2000 3), (175, O_callS 3 sp_X7_within), (178, O_asti aW aW_wi), (179, O_vret)]
abbrev cut_X7_water : List Nat := [4, 79]
set_option maxRecDepth 100000 in
theorem okc_X7_water {E : En} (F : Fx E RX7 cX7_water 3 3) (G : Fr E none) : CodOk E aW cod_X7_water := by
  unfold CodOk cod_X7_water
  refine List.forall_mem_cons.mpr ⟨ok_iconst F dX7_water_0 (by decide) (by decide), ?_⟩
  refine List.forall_mem_cons.mpr ⟨ok_istore_n F dX7_water_1 rfl (by decide) (by decide), ?_⟩
  refine List.forall_mem_cons.mpr ⟨ok_iconst F dX7_water_2 (by decide) (by decide), ?_⟩
  refine List.forall_mem_cons.mpr ⟨ok_istore_n F dX7_water_3 rfl (by decide) (by decide), ?_⟩
  refine List.forall_mem_cons.mpr ⟨ok_iload_n F dX7_water_4 rfl (by decide), ?_⟩
  refine List.forall_mem_cons.mpr ⟨ok_aload_n F dX7_water_5 rfl (by decide), ?_⟩
  refine List.forall_mem_cons.mpr ⟨ok_getf F flX7_7 dX7_water_6 (by decide), ?_⟩
  refine List.forall_mem_cons.mpr ⟨ok_bipush F dX7_water_9 (by decide) (by decide), ?_⟩
  refine List.forall_mem_cons.mpr ⟨ok_iald F dX7_water_11 (by decide), ?_⟩
  refine List.forall_mem_cons.mpr ⟨ok_icmp_ge F dX7_water_12 (by decide) (by decide) (by decide), ?_⟩
  refine List.forall_mem_cons.mpr ⟨ok_aload_n F dX7_water_15 rfl (by decide), ?_⟩
  refine List.forall_mem_cons.mpr ⟨ok_iload_n F dX7_water_16 rfl (by decide), ?_⟩
  refine List.forall_mem_cons.mpr ⟨ok_callV F spok_X7_runs (ln_id aW) rcv_aW (by decide +kernel) (by decide) dX7_water_17 (by decide), ?_⟩
  refine List.forall_mem_cons.mpr ⟨ok_if_eq F dX7_water_20 (by decide) (by decide) (by decide), ?_⟩
  refine List.forall_mem_cons.mpr ⟨ok_iload_n F dX7_water_23 rfl (by decide), ?_⟩
  refine List.forall_mem_cons.mpr ⟨ok_aload_n F dX7_water_24 rfl (by decide), ?_⟩
  refine List.forall_mem_cons.mpr ⟨ok_iload_n F dX7_water_25 rfl (by decide), ?_⟩
  refine List.forall_mem_cons.mpr ⟨ok_aload_n F dX7_water_26 rfl (by decide), ?_⟩
  refine List.forall_mem_cons.mpr ⟨ok_iload_n F dX7_water_27 rfl (by decide), ?_⟩
  refine List.forall_mem_cons.mpr ⟨ok_iconst F dX7_water_28 (by decide) (by decide), ?_⟩
  refine List.forall_mem_cons.mpr ⟨ok_callV F spok_X7_of (ln_id aW) rcv_aW (by decide +kernel) (by decide) dX7_water_29 (by decide), ?_⟩
  refine List.forall_mem_cons.mpr ⟨ok_aload_n F dX7_water_32 rfl (by decide), ?_⟩
  refine List.forall_mem_cons.mpr ⟨ok_getf F flX7_7 dX7_water_33 (by decide), ?_⟩
  refine List.forall_mem_cons.mpr ⟨ok_iconst F dX7_water_36 (by decide) (by decide), ?_⟩
  refine List.forall_mem_cons.mpr ⟨ok_iald F dX7_water_37 (by decide), ?_⟩
  refine List.forall_mem_cons.mpr ⟨ok_callV F spok_X7_flow (ln_id aW) rcv_aW (by decide +kernel) (by decide) dX7_water_38 (by decide), ?_⟩
  refine List.forall_mem_cons.mpr ⟨ok_iadd F dX7_water_41 (by decide), ?_⟩
  refine List.forall_mem_cons.mpr ⟨ok_istore_n F dX7_water_42 rfl (by decide) (by decide), ?_⟩
  refine List.forall_mem_cons.mpr ⟨ok_aload_n F dX7_water_43 rfl (by decide), ?_⟩
  refine List.forall_mem_cons.mpr ⟨ok_iload_n F dX7_water_44 rfl (by decide), ?_⟩
  refine List.forall_mem_cons.mpr ⟨ok_iconst F dX7_water_45 (by decide) (by decide), ?_⟩
  refine List.forall_mem_cons.mpr ⟨ok_aload_n F dX7_water_46 rfl (by decide), ?_⟩
  refine List.forall_mem_cons.mpr ⟨ok_iload_n F dX7_water_47 rfl (by decide), ?_⟩
  refine List.forall_mem_cons.mpr ⟨ok_iconst F dX7_water_48 (by decide) (by decide), ?_⟩
  refine List.forall_mem_cons.mpr ⟨ok_callV F spok_X7_of (ln_id aW) rcv_aW (by decide +kernel) (by decide) dX7_water_49 (by decide), ?_⟩
  refine List.forall_mem_cons.mpr ⟨ok_iconst F dX7_water_52 (by decide) (by decide), ?_⟩
  refine List.forall_mem_cons.mpr ⟨ok_iadd F dX7_water_53 (by decide), ?_⟩
  refine List.forall_mem_cons.mpr ⟨ok_callV F spok_X7_put (ln_id aW) rcv_aW (by decide +kernel) (by decide) dX7_water_54 (by decide), ?_⟩
  refine List.forall_mem_cons.mpr ⟨ok_aload_n F dX7_water_57 rfl (by decide), ?_⟩
  refine List.forall_mem_cons.mpr ⟨ok_iload_n F dX7_water_58 rfl (by decide), ?_⟩
  refine List.forall_mem_cons.mpr ⟨ok_bipush F dX7_water_59 (by decide) (by decide), ?_⟩
  refine List.forall_mem_cons.mpr ⟨ok_aload_n F dX7_water_61 rfl (by decide), ?_⟩
  refine List.forall_mem_cons.mpr ⟨ok_iload_n F dX7_water_62 rfl (by decide), ?_⟩
  refine List.forall_mem_cons.mpr ⟨ok_bipush F dX7_water_63 (by decide) (by decide), ?_⟩
  refine List.forall_mem_cons.mpr ⟨ok_callV F spok_X7_of (ln_id aW) rcv_aW (by decide +kernel) (by decide) dX7_water_65 (by decide), ?_⟩
  refine List.forall_mem_cons.mpr ⟨ok_iconst F dX7_water_68 (by decide) (by decide), ?_⟩
  refine List.forall_mem_cons.mpr ⟨ok_iadd F dX7_water_69 (by decide), ?_⟩
  refine List.forall_mem_cons.mpr ⟨ok_callV F spok_X7_put (ln_id aW) rcv_aW (by decide +kernel) (by decide) dX7_water_70 (by decide), ?_⟩
  refine List.forall_mem_cons.mpr ⟨ok_iinc F dX7_water_73 (by decide) (by decide) (by decide), ?_⟩
  refine List.forall_mem_cons.mpr ⟨ok_goto F dX7_water_76 (by decide) (by decide) (by decide), ?_⟩
  refine List.forall_mem_cons.mpr ⟨ok_iload_n F dX7_water_79 rfl (by decide), ?_⟩
  refine List.forall_mem_cons.mpr ⟨ok_aload_n F dX7_water_80 rfl (by decide), ?_⟩
  refine List.forall_mem_cons.mpr ⟨ok_getf F flX7_7 dX7_water_81 (by decide), ?_⟩
  refine List.forall_mem_cons.mpr ⟨ok_iconst F dX7_water_84 (by decide) (by decide), ?_⟩
  refine List.forall_mem_cons.mpr ⟨ok_iald F dX7_water_85 (by decide), ?_⟩
  refine List.forall_mem_cons.mpr ⟨ok_icmp_le F dX7_water_86 (by decide) (by decide) (by decide), ?_⟩
  refine List.forall_mem_cons.mpr ⟨ok_aload_n F dX7_water_89 rfl (by decide), ?_⟩
  refine List.forall_mem_cons.mpr ⟨ok_getf F flX7_7 dX7_water_90 (by decide), ?_⟩
  refine List.forall_mem_cons.mpr ⟨ok_iconst F dX7_water_93 (by decide) (by decide), ?_⟩
  refine List.forall_mem_cons.mpr ⟨ok_iald F dX7_water_94 (by decide), ?_⟩
  refine List.forall_mem_cons.mpr ⟨ok_goto F dX7_water_95 (by decide) (by decide) (by decide), ?_⟩
  refine List.forall_mem_cons.mpr ⟨ok_iload_n F dX7_water_98 rfl (by decide), ?_⟩
  refine List.forall_mem_cons.mpr ⟨ok_istore_n F dX7_water_99 rfl (by decide) (by decide), ?_⟩
  refine List.forall_mem_cons.mpr ⟨ok_aload_n F dX7_water_100 rfl (by decide), ?_⟩
  refine List.forall_mem_cons.mpr ⟨ok_getf F flX7_7 dX7_water_101 (by decide), ?_⟩
  refine List.forall_mem_cons.mpr ⟨ok_iconst F dX7_water_104 (by decide) (by decide), ?_⟩
  refine List.forall_mem_cons.mpr ⟨ok_iload_n F dX7_water_105 rfl (by decide), ?_⟩
  refine List.forall_mem_cons.mpr ⟨ok_asti F aW_wok dX7_water_106 (by decide), ?_⟩
  refine List.forall_mem_cons.mpr ⟨ok_aload_n F dX7_water_107 rfl (by decide), ?_⟩
  refine List.forall_mem_cons.mpr ⟨ok_getf F flX7_7 dX7_water_108 (by decide), ?_⟩
  refine List.forall_mem_cons.mpr ⟨ok_bipush F dX7_water_111 (by decide) (by decide), ?_⟩
  refine List.forall_mem_cons.mpr ⟨ok_dup2 F dX7_water_113 (by decide), ?_⟩
  refine List.forall_mem_cons.mpr ⟨ok_iald F dX7_water_114 (by decide), ?_⟩
  refine List.forall_mem_cons.mpr ⟨ok_iload_n F dX7_water_115 rfl (by decide), ?_⟩
  refine List.forall_mem_cons.mpr ⟨ok_iadd F dX7_water_116 (by decide), ?_⟩
  refine List.forall_mem_cons.mpr ⟨ok_asti F aW_wok dX7_water_117 (by decide), ?_⟩
  refine List.forall_mem_cons.mpr ⟨ok_aload_n F dX7_water_118 rfl (by decide), ?_⟩
  refine List.forall_mem_cons.mpr ⟨ok_getf F flX7_7 dX7_water_119 (by decide), ?_⟩
  refine List.forall_mem_cons.mpr ⟨ok_iconst F dX7_water_122 (by decide) (by decide), ?_⟩
  refine List.forall_mem_cons.mpr ⟨ok_aload_n F dX7_water_123 rfl (by decide), ?_⟩
  refine List.forall_mem_cons.mpr ⟨ok_getf F flX7_7 dX7_water_124 (by decide), ?_⟩
  refine List.forall_mem_cons.mpr ⟨ok_iconst F dX7_water_127 (by decide) (by decide), ?_⟩
  refine List.forall_mem_cons.mpr ⟨ok_iald F dX7_water_128 (by decide), ?_⟩
  refine List.forall_mem_cons.mpr ⟨ok_iload_n F dX7_water_129 rfl (by decide), ?_⟩
  refine List.forall_mem_cons.mpr ⟨ok_isub F dX7_water_130 (by decide), ?_⟩
  refine List.forall_mem_cons.mpr ⟨ok_aload_n F dX7_water_131 rfl (by decide), ?_⟩
  refine List.forall_mem_cons.mpr ⟨ok_bipush F dX7_water_132 (by decide) (by decide), ?_⟩
  refine List.forall_mem_cons.mpr ⟨ok_callV F spok_X7_setting (ln_id aW) rcv_aW (by decide +kernel) (by decide) dX7_water_134 (by decide), ?_⟩
  refine List.forall_mem_cons.mpr ⟨ok_iadd F dX7_water_137 (by decide), ?_⟩
  refine List.forall_mem_cons.mpr ⟨ok_iconst F dX7_water_138 (by decide) (by decide), ?_⟩
  refine List.forall_mem_cons.mpr ⟨ok_sipush F dX7_water_139 (by decide) (by decide), ?_⟩
  refine List.forall_mem_cons.mpr ⟨ok_callS F spok_X7_within (by decide +kernel) rfl (by decide) dX7_water_142 (by decide), ?_⟩
  refine List.forall_mem_cons.mpr ⟨ok_asti F aW_wok dX7_water_145 (by decide), ?_⟩
  refine List.forall_mem_cons.mpr ⟨ok_aload_n F dX7_water_146 rfl (by decide), ?_⟩
  refine List.forall_mem_cons.mpr ⟨ok_getf F flX7_7 dX7_water_147 (by decide), ?_⟩
  refine List.forall_mem_cons.mpr ⟨ok_iconst F dX7_water_150 (by decide) (by decide), ?_⟩
  refine List.forall_mem_cons.mpr ⟨ok_aload_n F dX7_water_151 rfl (by decide), ?_⟩
  refine List.forall_mem_cons.mpr ⟨ok_getf F flX7_7 dX7_water_152 (by decide), ?_⟩
  refine List.forall_mem_cons.mpr ⟨ok_iconst F dX7_water_155 (by decide) (by decide), ?_⟩
  refine List.forall_mem_cons.mpr ⟨ok_iald F dX7_water_156 (by decide), ?_⟩
  refine List.forall_mem_cons.mpr ⟨ok_iload_n F dX7_water_157 rfl (by decide), ?_⟩
  refine List.forall_mem_cons.mpr ⟨ok_aload_n F dX7_water_158 rfl (by decide), ?_⟩
  refine List.forall_mem_cons.mpr ⟨ok_callV F spok_X7_demand (ln_id aW) rcv_aW (by decide +kernel) (by decide) dX7_water_159 (by decide), ?_⟩
  refine List.forall_mem_cons.mpr ⟨ok_isub F dX7_water_162 (by decide), ?_⟩
  refine List.forall_mem_cons.mpr ⟨ok_aload_n F dX7_water_163 rfl (by decide), ?_⟩
  refine List.forall_mem_cons.mpr ⟨ok_bipush F dX7_water_164 (by decide) (by decide), ?_⟩
  refine List.forall_mem_cons.mpr ⟨ok_callV F spok_X7_setting (ln_id aW) rcv_aW (by decide +kernel) (by decide) dX7_water_166 (by decide), ?_⟩
  refine List.forall_mem_cons.mpr ⟨ok_idiv F dX7_water_169 (by decide), ?_⟩
  refine List.forall_mem_cons.mpr ⟨ok_iadd F dX7_water_170 (by decide), ?_⟩
  refine List.forall_mem_cons.mpr ⟨ok_iconst F dX7_water_171 (by decide) (by decide), ?_⟩
  refine List.forall_mem_cons.mpr ⟨ok_sipush F dX7_water_172 (by decide) (by decide), ?_⟩
  refine List.forall_mem_cons.mpr ⟨ok_callS F spok_X7_within (by decide +kernel) rfl (by decide) dX7_water_175 (by decide), ?_⟩
  refine List.forall_mem_cons.mpr ⟨ok_asti F aW_wok dX7_water_178 (by decide), ?_⟩
  refine List.forall_mem_cons.mpr ⟨ok_vret F G dX7_water_179 (by decide), ?_⟩
  exact fun _ h => absurd h List.not_mem_nil
set_option maxRecDepth 100000 in
theorem w_X7_water : (∀ (K : Kt QT) (n : Nat) (L : xL) (st : List Value) (S : QT), nx cod_X7_water cut_X7_water K (n + 1) 0 L st S = (O_int 0 1) (nx cod_X7_water cut_X7_water K n) 0 L st S) ∧
  (∀ (K : Kt QT) (n : Nat) (L : xL) (st : List Value) (S : QT), nx cod_X7_water cut_X7_water K (n + 1) 1 L st S = (O_istore 1 1) (nx cod_X7_water cut_X7_water K n) 1 L st S) ∧
  (∀ (K : Kt QT) (n : Nat) (L : xL) (st : List Value) (S : QT), nx cod_X7_water cut_X7_water K (n + 1) 2 L st S = (O_int 0 1) (nx cod_X7_water cut_X7_water K n) 2 L st S) ∧
  (∀ (K : Kt QT) (n : Nat) (L : xL) (st : List Value) (S : QT), nx cod_X7_water cut_X7_water K (n + 1) 3 L st S = (O_istore 2 1) (nx cod_X7_water cut_X7_water K n) 3 L st S) ∧
  (∀ (K : Kt QT) (n : Nat) (L : xL) (st : List Value) (S : QT), nx cod_X7_water cut_X7_water K (n + 1) 4 L st S = K 4 L st S) ∧
  (∀ (K : Kt QT) (n : Nat) (L : xL) (st : List Value) (S : QT), nx1 cod_X7_water cut_X7_water K n 4 L st S = (O_iload 2 1) (nx cod_X7_water cut_X7_water K n) 4 L st S) ∧
  (∀ (K : Kt QT) (n : Nat) (L : xL) (st : List Value) (S : QT), nx cod_X7_water cut_X7_water K (n + 1) 5 L st S = (O_aload 0 1) (nx cod_X7_water cut_X7_water K n) 5 L st S) ∧
  (∀ (K : Kt QT) (n : Nat) (L : xL) (st : List Value) (S : QT), nx cod_X7_water cut_X7_water K (n + 1) 6 L st S = (O_getf aW 7 0) (nx cod_X7_water cut_X7_water K n) 6 L st S) ∧
  (∀ (K : Kt QT) (n : Nat) (L : xL) (st : List Value) (S : QT), nx cod_X7_water cut_X7_water K (n + 1) 9 L st S = (O_int 14 2) (nx cod_X7_water cut_X7_water K n) 9 L st S) ∧
  (∀ (K : Kt QT) (n : Nat) (L : xL) (st : List Value) (S : QT), nx cod_X7_water cut_X7_water K (n + 1) 11 L st S = (O_ald aW 0) (nx cod_X7_water cut_X7_water K n) 11 L st S) ∧
  (∀ (K : Kt QT) (n : Nat) (L : xL) (st : List Value) (S : QT), nx cod_X7_water cut_X7_water K (n + 1) 12 L st S = (O_icmp_ge 79) (nx cod_X7_water cut_X7_water K n) 12 L st S) ∧
  (∀ (K : Kt QT) (n : Nat) (L : xL) (st : List Value) (S : QT), nx cod_X7_water cut_X7_water K (n + 1) 15 L st S = (O_aload 0 1) (nx cod_X7_water cut_X7_water K n) 15 L st S) ∧
  (∀ (K : Kt QT) (n : Nat) (L : xL) (st : List Value) (S : QT), nx cod_X7_water cut_X7_water K (n + 1) 16 L st S = (O_iload 2 1) (nx cod_X7_water cut_X7_water K n) 16 L st S) ∧
  (∀ (K : Kt QT) (n : Nat) (L : xL) (st : List Value) (S : QT), nx cod_X7_water cut_X7_water K (n + 1) 17 L st S = (O_callV 1 0 (fun S => S) (fun _ S' => S') sp_X7_runs) (nx cod_X7_water cut_X7_water K n) 17 L st S) ∧
  (∀ (K : Kt QT) (n : Nat) (L : xL) (st : List Value) (S : QT), nx cod_X7_water cut_X7_water K (n + 1) 20 L st S = (O_if_eq 73) (nx cod_X7_water cut_X7_water K n) 20 L st S) ∧
  (∀ (K : Kt QT) (n : Nat) (L : xL) (st : List Value) (S : QT), nx cod_X7_water cut_X7_water K (n + 1) 23 L st S = (O_iload 1 1) (nx cod_X7_water cut_X7_water K n) 23 L st S) ∧
  (∀ (K : Kt QT) (n : Nat) (L : xL) (st : List Value) (S : QT), nx cod_X7_water cut_X7_water K (n + 1) 24 L st S = (O_aload 0 1) (nx cod_X7_water cut_X7_water K n) 24 L st S) ∧
  (∀ (K : Kt QT) (n : Nat) (L : xL) (st : List Value) (S : QT), nx cod_X7_water cut_X7_water K (n + 1) 25 L st S = (O_iload 2 1) (nx cod_X7_water cut_X7_water K n) 25 L st S) ∧
  (∀ (K : Kt QT) (n : Nat) (L : xL) (st : List Value) (S : QT), nx cod_X7_water cut_X7_water K (n + 1) 26 L st S = (O_aload 0 1) (nx cod_X7_water cut_X7_water K n) 26 L st S) ∧
  (∀ (K : Kt QT) (n : Nat) (L : xL) (st : List Value) (S : QT), nx cod_X7_water cut_X7_water K (n + 1) 27 L st S = (O_iload 2 1) (nx cod_X7_water cut_X7_water K n) 27 L st S) ∧
  (∀ (K : Kt QT) (n : Nat) (L : xL) (st : List Value) (S : QT), nx cod_X7_water cut_X7_water K (n + 1) 28 L st S = (O_int 4 1) (nx cod_X7_water cut_X7_water K n) 28 L st S) ∧
  (∀ (K : Kt QT) (n : Nat) (L : xL) (st : List Value) (S : QT), nx cod_X7_water cut_X7_water K (n + 1) 29 L st S = (O_callV 2 0 (fun S => S) (fun _ S' => S') sp_X7_of) (nx cod_X7_water cut_X7_water K n) 29 L st S) ∧
  (∀ (K : Kt QT) (n : Nat) (L : xL) (st : List Value) (S : QT), nx cod_X7_water cut_X7_water K (n + 1) 32 L st S = (O_aload 0 1) (nx cod_X7_water cut_X7_water K n) 32 L st S) ∧
  (∀ (K : Kt QT) (n : Nat) (L : xL) (st : List Value) (S : QT), nx cod_X7_water cut_X7_water K (n + 1) 33 L st S = (O_getf aW 7 0) (nx cod_X7_water cut_X7_water K n) 33 L st S) ∧
  (∀ (K : Kt QT) (n : Nat) (L : xL) (st : List Value) (S : QT), nx cod_X7_water cut_X7_water K (n + 1) 36 L st S = (O_int 1 1) (nx cod_X7_water cut_X7_water K n) 36 L st S) ∧
  (∀ (K : Kt QT) (n : Nat) (L : xL) (st : List Value) (S : QT), nx cod_X7_water cut_X7_water K (n + 1) 37 L st S = (O_ald aW 0) (nx cod_X7_water cut_X7_water K n) 37 L st S) ∧
  (∀ (K : Kt QT) (n : Nat) (L : xL) (st : List Value) (S : QT), nx cod_X7_water cut_X7_water K (n + 1) 38 L st S = (O_callV 3 0 (fun S => S) (fun _ S' => S') sp_X7_flow) (nx cod_X7_water cut_X7_water K n) 38 L st S) ∧
  (∀ (K : Kt QT) (n : Nat) (L : xL) (st : List Value) (S : QT), nx cod_X7_water cut_X7_water K (n + 1) 41 L st S = (O_iadd) (nx cod_X7_water cut_X7_water K n) 41 L st S) ∧
  (∀ (K : Kt QT) (n : Nat) (L : xL) (st : List Value) (S : QT), nx cod_X7_water cut_X7_water K (n + 1) 42 L st S = (O_istore 1 1) (nx cod_X7_water cut_X7_water K n) 42 L st S) ∧
  (∀ (K : Kt QT) (n : Nat) (L : xL) (st : List Value) (S : QT), nx cod_X7_water cut_X7_water K (n + 1) 43 L st S = (O_aload 0 1) (nx cod_X7_water cut_X7_water K n) 43 L st S) ∧
  (∀ (K : Kt QT) (n : Nat) (L : xL) (st : List Value) (S : QT), nx cod_X7_water cut_X7_water K (n + 1) 44 L st S = (O_iload 2 1) (nx cod_X7_water cut_X7_water K n) 44 L st S) ∧
  (∀ (K : Kt QT) (n : Nat) (L : xL) (st : List Value) (S : QT), nx cod_X7_water cut_X7_water K (n + 1) 45 L st S = (O_int 5 1) (nx cod_X7_water cut_X7_water K n) 45 L st S) ∧
  (∀ (K : Kt QT) (n : Nat) (L : xL) (st : List Value) (S : QT), nx cod_X7_water cut_X7_water K (n + 1) 46 L st S = (O_aload 0 1) (nx cod_X7_water cut_X7_water K n) 46 L st S) ∧
  (∀ (K : Kt QT) (n : Nat) (L : xL) (st : List Value) (S : QT), nx cod_X7_water cut_X7_water K (n + 1) 47 L st S = (O_iload 2 1) (nx cod_X7_water cut_X7_water K n) 47 L st S) ∧
  (∀ (K : Kt QT) (n : Nat) (L : xL) (st : List Value) (S : QT), nx cod_X7_water cut_X7_water K (n + 1) 48 L st S = (O_int 5 1) (nx cod_X7_water cut_X7_water K n) 48 L st S) ∧
  (∀ (K : Kt QT) (n : Nat) (L : xL) (st : List Value) (S : QT), nx cod_X7_water cut_X7_water K (n + 1) 49 L st S = (O_callV 2 0 (fun S => S) (fun _ S' => S') sp_X7_of) (nx cod_X7_water cut_X7_water K n) 49 L st S) ∧
  (∀ (K : Kt QT) (n : Nat) (L : xL) (st : List Value) (S : QT), nx cod_X7_water cut_X7_water K (n + 1) 52 L st S = (O_int 1 1) (nx cod_X7_water cut_X7_water K n) 52 L st S) ∧
  (∀ (K : Kt QT) (n : Nat) (L : xL) (st : List Value) (S : QT), nx cod_X7_water cut_X7_water K (n + 1) 53 L st S = (O_iadd) (nx cod_X7_water cut_X7_water K n) 53 L st S) ∧
  (∀ (K : Kt QT) (n : Nat) (L : xL) (st : List Value) (S : QT), nx cod_X7_water cut_X7_water K (n + 1) 54 L st S = (O_callV 3 0 (fun S => S) (fun _ S' => S') sp_X7_put) (nx cod_X7_water cut_X7_water K n) 54 L st S) ∧
  (∀ (K : Kt QT) (n : Nat) (L : xL) (st : List Value) (S : QT), nx cod_X7_water cut_X7_water K (n + 1) 57 L st S = (O_aload 0 1) (nx cod_X7_water cut_X7_water K n) 57 L st S) ∧
  (∀ (K : Kt QT) (n : Nat) (L : xL) (st : List Value) (S : QT), nx cod_X7_water cut_X7_water K (n + 1) 58 L st S = (O_iload 2 1) (nx cod_X7_water cut_X7_water K n) 58 L st S) ∧
  (∀ (K : Kt QT) (n : Nat) (L : xL) (st : List Value) (S : QT), nx cod_X7_water cut_X7_water K (n + 1) 59 L st S = (O_int 6 2) (nx cod_X7_water cut_X7_water K n) 59 L st S) ∧
  (∀ (K : Kt QT) (n : Nat) (L : xL) (st : List Value) (S : QT), nx cod_X7_water cut_X7_water K (n + 1) 61 L st S = (O_aload 0 1) (nx cod_X7_water cut_X7_water K n) 61 L st S) ∧
  (∀ (K : Kt QT) (n : Nat) (L : xL) (st : List Value) (S : QT), nx cod_X7_water cut_X7_water K (n + 1) 62 L st S = (O_iload 2 1) (nx cod_X7_water cut_X7_water K n) 62 L st S) ∧
  (∀ (K : Kt QT) (n : Nat) (L : xL) (st : List Value) (S : QT), nx cod_X7_water cut_X7_water K (n + 1) 63 L st S = (O_int 6 2) (nx cod_X7_water cut_X7_water K n) 63 L st S) ∧
  (∀ (K : Kt QT) (n : Nat) (L : xL) (st : List Value) (S : QT), nx cod_X7_water cut_X7_water K (n + 1) 65 L st S = (O_callV 2 0 (fun S => S) (fun _ S' => S') sp_X7_of) (nx cod_X7_water cut_X7_water K n) 65 L st S) ∧
  (∀ (K : Kt QT) (n : Nat) (L : xL) (st : List Value) (S : QT), nx cod_X7_water cut_X7_water K (n + 1) 68 L st S = (O_int 1 1) (nx cod_X7_water cut_X7_water K n) 68 L st S) ∧
  (∀ (K : Kt QT) (n : Nat) (L : xL) (st : List Value) (S : QT), nx cod_X7_water cut_X7_water K (n + 1) 69 L st S = (O_iadd) (nx cod_X7_water cut_X7_water K n) 69 L st S) ∧
  (∀ (K : Kt QT) (n : Nat) (L : xL) (st : List Value) (S : QT), nx cod_X7_water cut_X7_water K (n + 1) 70 L st S = (O_callV 3 0 (fun S => S) (fun _ S' => S') sp_X7_put) (nx cod_X7_water cut_X7_water K n) 70 L st S) ∧
  (∀ (K : Kt QT) (n : Nat) (L : xL) (st : List Value) (S : QT), nx cod_X7_water cut_X7_water K (n + 1) 73 L st S = (O_iinc 2 1) (nx cod_X7_water cut_X7_water K n) 73 L st S) ∧
  (∀ (K : Kt QT) (n : Nat) (L : xL) (st : List Value) (S : QT), nx cod_X7_water cut_X7_water K (n + 1) 76 L st S = (O_goto 4) (nx cod_X7_water cut_X7_water K n) 76 L st S) ∧
  (∀ (K : Kt QT) (n : Nat) (L : xL) (st : List Value) (S : QT), nx cod_X7_water cut_X7_water K (n + 1) 79 L st S = K 79 L st S) ∧
  (∀ (K : Kt QT) (n : Nat) (L : xL) (st : List Value) (S : QT), nx1 cod_X7_water cut_X7_water K n 79 L st S = (O_iload 1 1) (nx cod_X7_water cut_X7_water K n) 79 L st S) ∧
  (∀ (K : Kt QT) (n : Nat) (L : xL) (st : List Value) (S : QT), nx cod_X7_water cut_X7_water K (n + 1) 80 L st S = (O_aload 0 1) (nx cod_X7_water cut_X7_water K n) 80 L st S) ∧
  (∀ (K : Kt QT) (n : Nat) (L : xL) (st : List Value) (S : QT), nx cod_X7_water cut_X7_water K (n + 1) 81 L st S = (O_getf aW 7 0) (nx cod_X7_water cut_X7_water K n) 81 L st S) ∧
  (∀ (K : Kt QT) (n : Nat) (L : xL) (st : List Value) (S : QT), nx cod_X7_water cut_X7_water K (n + 1) 84 L st S = (O_int 2 1) (nx cod_X7_water cut_X7_water K n) 84 L st S) ∧
  (∀ (K : Kt QT) (n : Nat) (L : xL) (st : List Value) (S : QT), nx cod_X7_water cut_X7_water K (n + 1) 85 L st S = (O_ald aW 0) (nx cod_X7_water cut_X7_water K n) 85 L st S) ∧
  (∀ (K : Kt QT) (n : Nat) (L : xL) (st : List Value) (S : QT), nx cod_X7_water cut_X7_water K (n + 1) 86 L st S = (O_icmp_le 98) (nx cod_X7_water cut_X7_water K n) 86 L st S) ∧
  (∀ (K : Kt QT) (n : Nat) (L : xL) (st : List Value) (S : QT), nx cod_X7_water cut_X7_water K (n + 1) 89 L st S = (O_aload 0 1) (nx cod_X7_water cut_X7_water K n) 89 L st S) ∧
  (∀ (K : Kt QT) (n : Nat) (L : xL) (st : List Value) (S : QT), nx cod_X7_water cut_X7_water K (n + 1) 90 L st S = (O_getf aW 7 0) (nx cod_X7_water cut_X7_water K n) 90 L st S) ∧
  (∀ (K : Kt QT) (n : Nat) (L : xL) (st : List Value) (S : QT), nx cod_X7_water cut_X7_water K (n + 1) 93 L st S = (O_int 2 1) (nx cod_X7_water cut_X7_water K n) 93 L st S) ∧
  (∀ (K : Kt QT) (n : Nat) (L : xL) (st : List Value) (S : QT), nx cod_X7_water cut_X7_water K (n + 1) 94 L st S = (O_ald aW 0) (nx cod_X7_water cut_X7_water K n) 94 L st S) ∧
  (∀ (K : Kt QT) (n : Nat) (L : xL) (st : List Value) (S : QT), nx cod_X7_water cut_X7_water K (n + 1) 95 L st S = (O_goto 99) (nx cod_X7_water cut_X7_water K n) 95 L st S) ∧
  (∀ (K : Kt QT) (n : Nat) (L : xL) (st : List Value) (S : QT), nx cod_X7_water cut_X7_water K (n + 1) 98 L st S = (O_iload 1 1) (nx cod_X7_water cut_X7_water K n) 98 L st S) ∧
  (∀ (K : Kt QT) (n : Nat) (L : xL) (st : List Value) (S : QT), nx cod_X7_water cut_X7_water K (n + 1) 99 L st S = (O_istore 1 1) (nx cod_X7_water cut_X7_water K n) 99 L st S) ∧
  (∀ (K : Kt QT) (n : Nat) (L : xL) (st : List Value) (S : QT), nx cod_X7_water cut_X7_water K (n + 1) 100 L st S = (O_aload 0 1) (nx cod_X7_water cut_X7_water K n) 100 L st S) ∧
  (∀ (K : Kt QT) (n : Nat) (L : xL) (st : List Value) (S : QT), nx cod_X7_water cut_X7_water K (n + 1) 101 L st S = (O_getf aW 7 0) (nx cod_X7_water cut_X7_water K n) 101 L st S) ∧
  (∀ (K : Kt QT) (n : Nat) (L : xL) (st : List Value) (S : QT), nx cod_X7_water cut_X7_water K (n + 1) 104 L st S = (O_int 3 1) (nx cod_X7_water cut_X7_water K n) 104 L st S) ∧
  (∀ (K : Kt QT) (n : Nat) (L : xL) (st : List Value) (S : QT), nx cod_X7_water cut_X7_water K (n + 1) 105 L st S = (O_iload 1 1) (nx cod_X7_water cut_X7_water K n) 105 L st S) ∧
  (∀ (K : Kt QT) (n : Nat) (L : xL) (st : List Value) (S : QT), nx cod_X7_water cut_X7_water K (n + 1) 106 L st S = (O_asti aW aW_wi) (nx cod_X7_water cut_X7_water K n) 106 L st S) ∧
  (∀ (K : Kt QT) (n : Nat) (L : xL) (st : List Value) (S : QT), nx cod_X7_water cut_X7_water K (n + 1) 107 L st S = (O_aload 0 1) (nx cod_X7_water cut_X7_water K n) 107 L st S) ∧
  (∀ (K : Kt QT) (n : Nat) (L : xL) (st : List Value) (S : QT), nx cod_X7_water cut_X7_water K (n + 1) 108 L st S = (O_getf aW 7 0) (nx cod_X7_water cut_X7_water K n) 108 L st S) ∧
  (∀ (K : Kt QT) (n : Nat) (L : xL) (st : List Value) (S : QT), nx cod_X7_water cut_X7_water K (n + 1) 111 L st S = (O_int 13 2) (nx cod_X7_water cut_X7_water K n) 111 L st S) ∧
  (∀ (K : Kt QT) (n : Nat) (L : xL) (st : List Value) (S : QT), nx cod_X7_water cut_X7_water K (n + 1) 113 L st S = (O_dup2) (nx cod_X7_water cut_X7_water K n) 113 L st S) ∧
  (∀ (K : Kt QT) (n : Nat) (L : xL) (st : List Value) (S : QT), nx cod_X7_water cut_X7_water K (n + 1) 114 L st S = (O_ald aW 0) (nx cod_X7_water cut_X7_water K n) 114 L st S) ∧
  (∀ (K : Kt QT) (n : Nat) (L : xL) (st : List Value) (S : QT), nx cod_X7_water cut_X7_water K (n + 1) 115 L st S = (O_iload 1 1) (nx cod_X7_water cut_X7_water K n) 115 L st S) ∧
  (∀ (K : Kt QT) (n : Nat) (L : xL) (st : List Value) (S : QT), nx cod_X7_water cut_X7_water K (n + 1) 116 L st S = (O_iadd) (nx cod_X7_water cut_X7_water K n) 116 L st S) ∧
  (∀ (K : Kt QT) (n : Nat) (L : xL) (st : List Value) (S : QT), nx cod_X7_water cut_X7_water K (n + 1) 117 L st S = (O_asti aW aW_wi) (nx cod_X7_water cut_X7_water K n) 117 L st S) ∧
  (∀ (K : Kt QT) (n : Nat) (L : xL) (st : List Value) (S : QT), nx cod_X7_water cut_X7_water K (n + 1) 118 L st S = (O_aload 0 1) (nx cod_X7_water cut_X7_water K n) 118 L st S) ∧
  (∀ (K : Kt QT) (n : Nat) (L : xL) (st : List Value) (S : QT), nx cod_X7_water cut_X7_water K (n + 1) 119 L st S = (O_getf aW 7 0) (nx cod_X7_water cut_X7_water K n) 119 L st S) ∧
  (∀ (K : Kt QT) (n : Nat) (L : xL) (st : List Value) (S : QT), nx cod_X7_water cut_X7_water K (n + 1) 122 L st S = (O_int 2 1) (nx cod_X7_water cut_X7_water K n) 122 L st S) ∧
  (∀ (K : Kt QT) (n : Nat) (L : xL) (st : List Value) (S : QT), nx cod_X7_water cut_X7_water K (n + 1) 123 L st S = (O_aload 0 1) (nx cod_X7_water cut_X7_water K n) 123 L st S) ∧
  (∀ (K : Kt QT) (n : Nat) (L : xL) (st : List Value) (S : QT), nx cod_X7_water cut_X7_water K (n + 1) 124 L st S = (O_getf aW 7 0) (nx cod_X7_water cut_X7_water K n) 124 L st S) ∧
  (∀ (K : Kt QT) (n : Nat) (L : xL) (st : List Value) (S : QT), nx cod_X7_water cut_X7_water K (n + 1) 127 L st S = (O_int 2 1) (nx cod_X7_water cut_X7_water K n) 127 L st S) ∧
  (∀ (K : Kt QT) (n : Nat) (L : xL) (st : List Value) (S : QT), nx cod_X7_water cut_X7_water K (n + 1) 128 L st S = (O_ald aW 0) (nx cod_X7_water cut_X7_water K n) 128 L st S) ∧
  (∀ (K : Kt QT) (n : Nat) (L : xL) (st : List Value) (S : QT), nx cod_X7_water cut_X7_water K (n + 1) 129 L st S = (O_iload 1 1) (nx cod_X7_water cut_X7_water K n) 129 L st S) ∧
  (∀ (K : Kt QT) (n : Nat) (L : xL) (st : List Value) (S : QT), nx cod_X7_water cut_X7_water K (n + 1) 130 L st S = (O_isub) (nx cod_X7_water cut_X7_water K n) 130 L st S) ∧
  (∀ (K : Kt QT) (n : Nat) (L : xL) (st : List Value) (S : QT), nx cod_X7_water cut_X7_water K (n + 1) 131 L st S = (O_aload 0 1) (nx cod_X7_water cut_X7_water K n) 131 L st S) ∧
  (∀ (K : Kt QT) (n : Nat) (L : xL) (st : List Value) (S : QT), nx cod_X7_water cut_X7_water K (n + 1) 132 L st S = (O_int 14 2) (nx cod_X7_water cut_X7_water K n) 132 L st S) ∧
  (∀ (K : Kt QT) (n : Nat) (L : xL) (st : List Value) (S : QT), nx cod_X7_water cut_X7_water K (n + 1) 134 L st S = (O_callV 1 0 (fun S => S) (fun _ S' => S') sp_X7_setting) (nx cod_X7_water cut_X7_water K n) 134 L st S) ∧
  (∀ (K : Kt QT) (n : Nat) (L : xL) (st : List Value) (S : QT), nx cod_X7_water cut_X7_water K (n + 1) 137 L st S = (O_iadd) (nx cod_X7_water cut_X7_water K n) 137 L st S) ∧
  (∀ (K : Kt QT) (n : Nat) (L : xL) (st : List Value) (S : QT), nx cod_X7_water cut_X7_water K (n + 1) 138 L st S = (O_int 0 1) (nx cod_X7_water cut_X7_water K n) 138 L st S) ∧
  (∀ (K : Kt QT) (n : Nat) (L : xL) (st : List Value) (S : QT), nx cod_X7_water cut_X7_water K (n + 1) 139 L st S = (O_int 20000 3) (nx cod_X7_water cut_X7_water K n) 139 L st S) ∧
  (∀ (K : Kt QT) (n : Nat) (L : xL) (st : List Value) (S : QT), nx cod_X7_water cut_X7_water K (n + 1) 142 L st S = (O_callS 3 sp_X7_within) (nx cod_X7_water cut_X7_water K n) 142 L st S) ∧
  (∀ (K : Kt QT) (n : Nat) (L : xL) (st : List Value) (S : QT), nx cod_X7_water cut_X7_water K (n + 1) 145 L st S = (O_asti aW aW_wi) (nx cod_X7_water cut_X7_water K n) 145 L st S) ∧
  (∀ (K : Kt QT) (n : Nat) (L : xL) (st : List Value) (S : QT), nx cod_X7_water cut_X7_water K (n + 1) 146 L st S = (O_aload 0 1) (nx cod_X7_water cut_X7_water K n) 146 L st S) ∧
  (∀ (K : Kt QT) (n : Nat) (L : xL) (st : List Value) (S : QT), nx cod_X7_water cut_X7_water K (n + 1) 147 L st S = (O_getf aW 7 0) (nx cod_X7_water cut_X7_water K n) 147 L st S) ∧
  (∀ (K : Kt QT) (n : Nat) (L : xL) (st : List Value) (S : QT), nx cod_X7_water cut_X7_water K (n + 1) 150 L st S = (O_int 1 1) (nx cod_X7_water cut_X7_water K n) 150 L st S) ∧
  (∀ (K : Kt QT) (n : Nat) (L : xL) (st : List Value) (S : QT), nx cod_X7_water cut_X7_water K (n + 1) 151 L st S = (O_aload 0 1) (nx cod_X7_water cut_X7_water K n) 151 L st S) ∧
  (∀ (K : Kt QT) (n : Nat) (L : xL) (st : List Value) (S : QT), nx cod_X7_water cut_X7_water K (n + 1) 152 L st S = (O_getf aW 7 0) (nx cod_X7_water cut_X7_water K n) 152 L st S) ∧
  (∀ (K : Kt QT) (n : Nat) (L : xL) (st : List Value) (S : QT), nx cod_X7_water cut_X7_water K (n + 1) 155 L st S = (O_int 1 1) (nx cod_X7_water cut_X7_water K n) 155 L st S) ∧
  (∀ (K : Kt QT) (n : Nat) (L : xL) (st : List Value) (S : QT), nx cod_X7_water cut_X7_water K (n + 1) 156 L st S = (O_ald aW 0) (nx cod_X7_water cut_X7_water K n) 156 L st S) ∧
  (∀ (K : Kt QT) (n : Nat) (L : xL) (st : List Value) (S : QT), nx cod_X7_water cut_X7_water K (n + 1) 157 L st S = (O_iload 1 1) (nx cod_X7_water cut_X7_water K n) 157 L st S) ∧
  (∀ (K : Kt QT) (n : Nat) (L : xL) (st : List Value) (S : QT), nx cod_X7_water cut_X7_water K (n + 1) 158 L st S = (O_aload 0 1) (nx cod_X7_water cut_X7_water K n) 158 L st S) ∧
  (∀ (K : Kt QT) (n : Nat) (L : xL) (st : List Value) (S : QT), nx cod_X7_water cut_X7_water K (n + 1) 159 L st S = (O_callV 0 0 (fun S => S) (fun _ S' => S') sp_X7_demand) (nx cod_X7_water cut_X7_water K n) 159 L st S) ∧
  (∀ (K : Kt QT) (n : Nat) (L : xL) (st : List Value) (S : QT), nx cod_X7_water cut_X7_water K (n + 1) 162 L st S = (O_isub) (nx cod_X7_water cut_X7_water K n) 162 L st S) ∧
  (∀ (K : Kt QT) (n : Nat) (L : xL) (st : List Value) (S : QT), nx cod_X7_water cut_X7_water K (n + 1) 163 L st S = (O_aload 0 1) (nx cod_X7_water cut_X7_water K n) 163 L st S) ∧
  (∀ (K : Kt QT) (n : Nat) (L : xL) (st : List Value) (S : QT), nx cod_X7_water cut_X7_water K (n + 1) 164 L st S = (O_int 10 2) (nx cod_X7_water cut_X7_water K n) 164 L st S) ∧
  (∀ (K : Kt QT) (n : Nat) (L : xL) (st : List Value) (S : QT), nx cod_X7_water cut_X7_water K (n + 1) 166 L st S = (O_callV 1 0 (fun S => S) (fun _ S' => S') sp_X7_setting) (nx cod_X7_water cut_X7_water K n) 166 L st S) ∧
  (∀ (K : Kt QT) (n : Nat) (L : xL) (st : List Value) (S : QT), nx cod_X7_water cut_X7_water K (n + 1) 169 L st S = (O_idiv) (nx cod_X7_water cut_X7_water K n) 169 L st S) ∧
  (∀ (K : Kt QT) (n : Nat) (L : xL) (st : List Value) (S : QT), nx cod_X7_water cut_X7_water K (n + 1) 170 L st S = (O_iadd) (nx cod_X7_water cut_X7_water K n) 170 L st S) ∧
  (∀ (K : Kt QT) (n : Nat) (L : xL) (st : List Value) (S : QT), nx cod_X7_water cut_X7_water K (n + 1) 171 L st S = (O_int 0 1) (nx cod_X7_water cut_X7_water K n) 171 L st S) ∧
  (∀ (K : Kt QT) (n : Nat) (L : xL) (st : List Value) (S : QT), nx cod_X7_water cut_X7_water K (n + 1) 172 L st S = (O_int 2000 3) (nx cod_X7_water cut_X7_water K n) 172 L st S) ∧
  (∀ (K : Kt QT) (n : Nat) (L : xL) (st : List Value) (S : QT), nx cod_X7_water cut_X7_water K (n + 1) 175 L st S = (O_callS 3 sp_X7_within) (nx cod_X7_water cut_X7_water K n) 175 L st S) ∧
  (∀ (K : Kt QT) (n : Nat) (L : xL) (st : List Value) (S : QT), nx cod_X7_water cut_X7_water K (n + 1) 178 L st S = (O_asti aW aW_wi) (nx cod_X7_water cut_X7_water K n) 178 L st S) ∧
  (∀ (K : Kt QT) (n : Nat) (L : xL) (st : List Value) (S : QT), nx cod_X7_water cut_X7_water K (n + 1) 179 L st S = (O_vret) (nx cod_X7_water cut_X7_water K n) 179 L st S) ∧
  (∀ (K : Kt QT) (n : Nat) (L : xL) (st : List Value) (S : QT), nx cod_X7_water cut_X7_water K (n + 1) 100000 L st S = K 100000 L st S) := by
  repeat' apply And.intro
  all_goals (intros; rfl)
set_option maxRecDepth 100000 in
theorem mk_X7_water {P P' : QT} {r : Option Value}  (body : ∀ E : En, CodOk E aW cod_X7_water → Gd E aW 100000 [] r.toList P' → Gd E aW 0 [some (.ref 0), none, none] [] P) : Con yX7_water cX7_water 3 none 3 aW [.ref 0] P r P' :=
  Con.of (by decide) ((aW_len P').trans (aW_len P).symm) rfl (Nat.le_of_ble_eq_true rfl) (fun E F G hr => body E (okc_X7_water F G) hr)
set_option maxRecDepth 10000 in
theorem con_X7_water (S : ST) (M : MT) (fl : Bool)  (hp : S.inv 1) : Con yX7_water cX7_water 3 none 3 aW [.ref 0] (S, M, fl) (none) ((S.water, M, fl)) := by
  refine mk_X7_water (fun E C hr => ?_)
  have hpr := hp.2.2.2.2.2.1
  have hprs : ¬ S.pressure < 0 := by
    rw [Int32.lt_iff_toInt_lt, iz.1]
    unfold rng at hpr
    omega
  have h79 : Gd E aW 79 [some (.ref 0), some (.int (S.P.flow S.pressure)), some (.int (nI S.P.n))] [] (S.sP S.P.countM, M, fl) := by
    rw [ST.water_eq hp] at hr
    have hz := hp.2.1.1
    have hb := hp.2.1.2.1
    have hc : ¬ S.settings 10 = 0 := pos_ne (rng_lt hp.2.2.2.2.1.2.2.2.2.1 (by decide))
    have hs1 : S.level < S.P.flow S.pressure → S.sup = S.level := fun q => by
      unfold ST.sup
      rw [if_neg]
      rw [Int32.lt_iff_toInt_lt] at *
      omega
    have hs2 : ¬ S.level < S.P.flow S.pressure → S.sup = S.P.flow S.pressure := fun q => by
      unfold ST.sup
      by_cases c : S.P.flow S.pressure < S.level
      · rw [if_pos c]
      · rw [if_neg c]
        rw [Int32.lt_iff_toInt_lt] at *
        apply Int32.toInt_inj.mp
        omega
    by_cases c : S.level < S.P.flow S.pressure
    · rw [hs1 c] at hr
      clear hs1 hs2 hp hpr hprs
      (refine nx1_ok C cut_X7_water 1000 ?_; simp only [w_X7_water, ops_eq, xst_eq, call_eq, oK_eq, Option.toList_some, Option.toList_none, List.cons_append, List.nil_append, List.length_cons, List.length_nil, true_and, and_true, Nat.reduceAdd, aW_F, aW_A, aW_P, aW_w, abs_eq, O_asti_eq, v170, cl_eq, ST_id, MT_gs, ST_gs, PT_gs, ZT_gs, NT_gs, ET_gs, se_X7_runs, se_X7_of, se_X7_flow, se_X7_put, se_X7_setting, se_X7_within, se_X7_demand, v19_eq, hz, hb, hc, demand_eq, c])
      ((repeat' (with_reducible first | apply And.intro | intro _)) <;> simp_all [ST_id, MT_gs, ST_gs, PT_gs, ZT_gs, NT_gs, ET_gs])
    · rw [hs2 c] at hr
      clear hs1 hs2 hp hpr hprs
      (refine nx1_ok C cut_X7_water 1000 ?_; simp only [w_X7_water, ops_eq, xst_eq, call_eq, oK_eq, Option.toList_some, Option.toList_none, List.cons_append, List.nil_append, List.length_cons, List.length_nil, true_and, and_true, Nat.reduceAdd, aW_F, aW_A, aW_P, aW_w, abs_eq, O_asti_eq, v170, cl_eq, ST_id, MT_gs, ST_gs, PT_gs, ZT_gs, NT_gs, ET_gs, se_X7_runs, se_X7_of, se_X7_flow, se_X7_put, se_X7_setting, se_X7_within, se_X7_demand, v19_eq, hz, hb, hc, demand_eq, c])
      ((repeat' (with_reducible first | apply And.intro | intro _)) <;> simp_all [ST_id, MT_gs, ST_gs, PT_gs, ZT_gs, NT_gs, ET_gs])
  clear hr
  have key : Gd E aW 4 [some (.ref 0), some (.int 0), some (.int (nI 0))] [] (S.sP S.P, M, fl) := by
    refine it_up (f := fun p (q : Int32 × PT) => (q.1 + S.P.flowOf p (S.P.speeds p) S.pressure, PT.cm p q.2)) (a := ((0 : Int32), S.P)) (n := S.P.n) (fun _ (q : Int32 × PT) => q.2.inv ∧ S.P.same q.2) (fun i (q : Int32 × PT) => Gd E aW 4 [some (.ref 0), some (.int q.1), some (.int (nI i))] [] (S.sP q.2, M, fl)) ⟨hp.1, rfl, rfl, rfl, rfl, rfl⟩ (fun i q hi hq => ⟨PT.cm_inv hq.1 (by unfold PT.n; rw [hq.2.1]; exact hi), PT.cm_same hq.2 i⟩) (fun i q hi hq hn => ?_) ?_
    · obtain ⟨r, T⟩ := q
      obtain ⟨hT, hs⟩ := hq
      have hx := ixs hp.1.1 hi
      have hsz : T.size = S.P.size := hs.1
      have hTn : i < T.n := by unfold PT.n; rw [hsz]; exact hi
      have hh := PT.n_has hT.1 hTn
      have hrow := hT.2.1 i hTn
      have hspd := hrow.2.2.1
      dsimp only at hn
      rw [← PT.flowOf_same hs] at hn
      rw [show S.P.speeds i = T.speeds i by rw [hs.2.2.2.2]] at hn
      clear h79
      cases c : T.run i with
      | true =>
        have e : PT.cm i T = (T.sMinutes (upd T.minutes i (T.minutes i + 1))).sSince (upd T.since i (T.since i + 1)) := if_pos c
        rw [e] at hn
        clear hs hrow hp hprs e
        (refine nx1_ok C cut_X7_water 1000 ?_; simp only [w_X7_water, ops_eq, xst_eq, call_eq, oK_eq, Option.toList_some, Option.toList_none, List.cons_append, List.nil_append, List.length_cons, List.length_nil, true_and, and_true, Nat.reduceAdd, aW_F, aW_A, aW_P, aW_w, abs_eq, O_asti_eq, v170, cl_eq, ST_id, MT_gs, ST_gs, PT_gs, ZT_gs, NT_gs, ET_gs, se_X7_runs, se_X7_of, se_X7_flow, se_X7_put, se_X7_setting, se_X7_within, se_X7_demand, v8_eq, bI_eq, get_eq, put_eq, hx, hsz, hT, hh, hspd, hpr, c])
        ((repeat' (with_reducible first | apply And.intro | intro _)) <;> simp_all [ST_id, MT_gs, ST_gs, PT_gs, ZT_gs, NT_gs, ET_gs])
      | false =>
        have e : PT.cm i T = T := if_neg (by rw [c]; decide)
        rw [e, run_rng hspd c, PT.flowOf_0 _ hprs, Int32.add_zero] at hn
        clear hs hrow hp hprs e
        (refine nx1_ok C cut_X7_water 1000 ?_; simp only [w_X7_water, ops_eq, xst_eq, call_eq, oK_eq, Option.toList_some, Option.toList_none, List.cons_append, List.nil_append, List.length_cons, List.length_nil, true_and, and_true, Nat.reduceAdd, aW_F, aW_A, aW_P, aW_w, abs_eq, O_asti_eq, v170, cl_eq, ST_id, MT_gs, ST_gs, PT_gs, ZT_gs, NT_gs, ET_gs, se_X7_runs, se_X7_of, se_X7_flow, se_X7_put, se_X7_setting, se_X7_within, se_X7_demand, v8_eq, bI_eq, get_eq, put_eq, hx, hsz, hT, hh, hspd, hpr, c])
        ((repeat' (with_reducible first | apply And.intro | intro _)) <;> simp_all [ST_id, MT_gs, ST_gs, PT_gs, ZT_gs, NT_gs, ET_gs])
    · rw [it_pair (fun p r => r + S.P.flowOf p (S.P.speeds p) S.pressure) PT.cm]
      have hx := ixe hp.1.1
      have e1 : it (fun p r => r + S.P.flowOf p (S.P.speeds p) S.pressure) 0 S.P.n = S.P.flow S.pressure := rfl
      have e2 : it PT.cm S.P S.P.n = S.P.countM := rfl
      have e3 : S.P.countM.size = S.P.size := PT.countM_size S.P
      rw [e1, e2]
      (refine nx1_ok C cut_X7_water 1000 ?_; simp only [w_X7_water, ops_eq, xst_eq, call_eq, oK_eq, Option.toList_some, Option.toList_none, List.cons_append, List.nil_append, List.length_cons, List.length_nil, true_and, and_true, Nat.reduceAdd, aW_F, aW_A, aW_P, aW_w, abs_eq, O_asti_eq, v170, cl_eq, ST_id, MT_gs, ST_gs, PT_gs, ZT_gs, NT_gs, ET_gs, se_X7_runs, se_X7_of, se_X7_flow, se_X7_put, se_X7_setting, se_X7_within, se_X7_demand, hx, e3])
      ((repeat' (with_reducible first | apply And.intro | intro _)) <;> simp_all [ST_id, MT_gs, ST_gs, PT_gs, ZT_gs, NT_gs, ET_gs])
  clear h79
  (refine nx_ok C (cuts := cut_X7_water) 1000 _ _ _ _ ?_; simp only [w_X7_water, ops_eq, xst_eq, call_eq, oK_eq, Option.toList_some, Option.toList_none, List.cons_append, List.nil_append, List.length_cons, List.length_nil, true_and, and_true, Nat.reduceAdd, aW_F, aW_A, aW_P, aW_w, abs_eq, O_asti_eq, v170, cl_eq, ST_id, MT_gs, ST_gs, PT_gs, ZT_gs, NT_gs, ET_gs, se_X7_runs, se_X7_of, se_X7_flow, se_X7_put, se_X7_setting, se_X7_within, se_X7_demand])
  ((repeat' (with_reducible first | apply And.intro | intro _)) <;> simp_all [nI_0, ST_id, MT_gs, ST_gs, PT_gs, ZT_gs, NT_gs, ET_gs])
def spc_X7_water (S : ST) (M : MT) (fl : Bool)  (K : Option Value → QT → Prop) : Prop := (S.inv 1) ∧ K (none) ((S.water, M, fl))
def sp_X7_water : Sp QT := fun av q K => match av with
  | [.ref 0] => spc_X7_water q.1 q.2.1 q.2.2  K
  | _ => False
theorem se_X7_water (S : ST) (M : MT) (fl : Bool)  (K : Option Value → QT → Prop) : sp_X7_water [.ref 0] (S, M, fl) K = ((S.inv 1) ∧ K (none) ((S.water, M, fl))) := rfl
theorem spok_X7_water : SpOk yX7_water cX7_water 3 none 3 aW sp_X7_water := by
  intro av q K h
  unfold sp_X7_water at h
  split at h
  · refine ⟨_, _, ?_, con_X7_water q.1 q.2.1 q.2.2  h.1, h.2⟩; trivial
  · exact h.elim
/-! counting -/
def cN (c : Nat → Bool) (n : Nat) : Nat := it (fun j r => r + if c j = true then 1 else 0) 0 n
theorem cN_s (c : Nat → Bool) (n : Nat) : cN c (n + 1) = cN c n + if c n = true then 1 else 0 := rfl
theorem cN_ub (c : Nat → Bool) : ∀ n, cN c n ≤ n
  | 0 => Nat.le_refl 0
  | n + 1 => by
    have := cN_ub c n
    rw [cN_s]
    split <;> omega
theorem it_cN (c : Nat → Bool) : ∀ n, it (fun j r => r + bI (c j)) 0 n = nI (cN c n)
  | 0 => rfl
  | n + 1 => by
    rw [it, it_cN c n, cN_s]
    unfold bI
    split
    · exact nI_1 _
    · exact Int32.add_zero _
theorem cN_le {c d : Nat → Bool} : ∀ {n : Nat}, (∀ j, j < n → c j = true → d j = true) → cN c n ≤ cN d n
  | 0, _ => Nat.le_refl 0
  | n + 1, h => by
    have := cN_le (n := n) (fun j hj => h j (by omega))
    have h2 := h n (by omega)
    rw [cN_s, cN_s]
    by_cases q : c n = true
    · rw [if_pos q, if_pos (h2 q)]; omega
    · rw [if_neg q]; split <;> omega
theorem cN_mono (c : Nat → Bool) {m n : Nat} (h : m ≤ n) : cN c m ≤ cN c n := by
  induction n with
  | zero => rw [show m = 0 by omega]; exact Nat.le_refl _
  | succ n ih =>
    rcases Nat.lt_or_ge n m with q | q
    · rw [show m = n + 1 by omega]; exact Nat.le_refl _
    · have := ih q
      rw [cN_s]
      omega
theorem cN_or {c d e : Nat → Bool} : ∀ {n : Nat}, (∀ j, j < n → ((e j = true) ↔ (c j = true ∨ d j = true)) ∧ ¬ (c j = true ∧ d j = true)) → cN e n = cN c n + cN d n
  | 0, _ => rfl
  | n + 1, h => by
    have := cN_or (n := n) (fun j hj => h j (by omega))
    obtain ⟨h2, h3⟩ := h n (by omega)
    rw [cN_s, cN_s, cN_s, this]
    by_cases q : c n = true
    · rw [if_pos q, if_pos (h2.mpr (Or.inl q)), if_neg (fun z => h3 ⟨q, z⟩)]; omega
    · by_cases r : d n = true
      · rw [if_neg q, if_pos r, if_pos (h2.mpr (Or.inr r))]; omega
      · rw [if_neg q, if_neg r, if_neg (fun z => (h2.mp z).elim q r)]; omega
theorem cN_ex {c : Nat → Bool} : ∀ {n q : Nat}, q < cN c n → ∃ t, t < n ∧ c t = true ∧ cN c t = q
  | 0, q, h => absurd h (Nat.not_lt_zero q)
  | n + 1, q, h => by
    rcases Nat.lt_or_ge q (cN c n) with g | g
    · obtain ⟨t, h1, h2, h3⟩ := cN_ex g
      exact ⟨t, by omega, h2, h3⟩
    · rw [cN_s] at h
      by_cases z : c n = true
      · rw [if_pos z] at h
        exact ⟨n, by omega, z, by omega⟩
      · rw [if_neg z] at h
        omega
theorem fstN_none {c : Nat → Bool} {n : Nat} (h : fstN c n = none) : ∀ i, i < n → c i = false := by
  have hh := it_inv (f := fun p x => if x.isSome then x else if c p then some p else none) (a := (none : Option Nat)) (n := n) (fun m (x : Option Nat) => x = none → ∀ i, i < m → c i = false) (fun _ i hi => absurd hi (Nat.not_lt_zero i)) (fun m x hm hx => by
    intro hj i hi
    cases x with
    | some p => simp at hj
    | none =>
      simp at hj
      rcases Nat.lt_or_ge i m with g | g
      · exact hx rfl i g
      · rw [show i = m by omega]; exact hj)
  exact hh h
def NT.less (S : NT) (i : Nat) : Int32 := it (fun o r => r + bI (decide (S.noted o < S.noted i))) 0 S.n
def NT.alike (S : NT) (i : Nat) : Int32 := it (fun o r => r + bI (decide (S.noted o = S.noted i))) 0 S.n
def NT.mid7 (S : NT) : Int32 := match fstN (fun i => decide (¬ (S.size - 1) / 2 < S.less i ∧ (S.size - 1) / 2 < S.less i + S.alike i)) S.n with
  | some i => S.noted i
  | none => 0
theorem mid_facts (v : Nat → Int32) (n m : Nat) : 
    (∀ i, i < n → cN (fun j => decide (v j < v i ∨ v j = v i ∧ j < i)) n = m → cN (fun j => decide (v j < v i)) n ≤ m ∧ m < cN (fun j => decide (v j < v i)) n + cN (fun j => decide (v j = v i)) n) ∧
    (∀ i, i < n → (cN (fun j => decide (v j < v i)) n ≤ m ∧ m < cN (fun j => decide (v j < v i)) n + cN (fun j => decide (v j = v i)) n) → ∃ t, t < n ∧ cN (fun j => decide (v j < v t ∨ v j = v t ∧ j < t)) n = m) ∧
    (∀ i k, i < n → k < n → (cN (fun j => decide (v j < v i)) n ≤ m ∧ m < cN (fun j => decide (v j < v i)) n + cN (fun j => decide (v j = v i)) n) → (cN (fun j => decide (v j < v k)) n ≤ m ∧ m < cN (fun j => decide (v j < v k)) n + cN (fun j => decide (v j = v k)) n) → v i = v k) := by
  have irr : ∀ x : Int32, ¬ x < x := fun x => Int32.lt_irrefl
  have split3 : ∀ i, i < n → cN (fun j => decide (v j < v i ∨ v j = v i ∧ j < i)) n = cN (fun j => decide (v j < v i)) n + cN (fun j => decide (v j = v i)) i := by
    intro i hi
    have h1 := cN_or (c := fun j => decide (v j < v i)) (d := fun j => decide (v j = v i ∧ j < i)) (e := fun j => decide (v j < v i ∨ v j = v i ∧ j < i)) (n := n) (fun j hj => by
      refine ⟨by simp, fun z => ?_⟩
      simp only [decide_eq_true_eq] at z
      exact irr _ (z.2.1 ▸ z.1))
    rw [h1]
    congr 1
    have h2 : ∀ k, k ≤ n → cN (fun j => decide (v j = v i ∧ j < i)) k = cN (fun j => decide (v j = v i)) (if k < i then k else i) := by
      intro k
      induction k with
      | zero => intro _; split
                · rfl
                · rw [show i = 0 by omega]; rfl
      | succ k ih =>
        intro hk
        rw [cN_s, ih (by omega)]
        by_cases q : k < i
        · rw [if_pos q]
          by_cases r : k + 1 < i
          · rw [if_pos r, cN_s]
            simp [q]
          · rw [if_neg r, show i = k + 1 by omega, cN_s]
            simp
        · rw [if_neg q, if_neg (show ¬ (decide (v k = v i ∧ k < i) = true) from fun z => q (of_decide_eq_true z).2), if_neg (show ¬ k + 1 < i by omega), Nat.add_zero]
    rw [h2 n (Nat.le_refl n), if_neg (by omega)]
  have below : ∀ i, i < n → cN (fun j => decide (v j = v i)) i + 1 ≤ cN (fun j => decide (v j = v i)) n := by
    intro i hi
    have h1 := cN_mono (fun j => decide (v j = v i)) (m := i + 1) (n := n) (by omega)
    rw [cN_s] at h1
    simpa using h1
  refine ⟨fun i hi h => ?_, fun i hi h => ?_, fun i k hi hk h g => ?_⟩
  · rw [split3 i hi] at h
    have := below i hi
    omega
  · obtain ⟨t, ht, h1, h2⟩ := cN_ex (c := fun j => decide (v j = v i)) (n := n) (q := m - cN (fun j => decide (v j < v i)) n) (by omega)
    simp only [decide_eq_true_eq] at h1
    refine ⟨t, ht, ?_⟩
    rw [split3 t ht, h1, h2]
    omega
  · have step : ∀ i k, i < n → k < n → v i < v k → cN (fun j => decide (v j < v i)) n + cN (fun j => decide (v j = v i)) n ≤ cN (fun j => decide (v j < v k)) n := by
      intro i k hi hk hlt
      rw [← cN_or (c := fun j => decide (v j < v i)) (d := fun j => decide (v j = v i)) (e := fun j => decide (v j < v i ∨ v j = v i)) (n := n) (fun j hj => by
        refine ⟨by simp, fun z => ?_⟩
        simp only [decide_eq_true_eq] at z
        exact irr _ (z.2 ▸ z.1))]
      refine cN_le (fun j hj hc => ?_)
      simp only [decide_eq_true_eq] at hc ⊢
      rcases hc with q | q
      · exact Int32.lt_trans q hlt
      · rw [q]; exact hlt
    by_cases a : v i < v k
    · have := step i k hi hk a; omega
    · by_cases b : v k < v i
      · have := step k i hk hi b; omega
      · rw [Int32.lt_iff_toInt_lt] at a b
        apply Int32.toInt_inj.mp
        omega
theorem NT.mid_eq {S : NT} (h : S.ok) : S.mid = S.mid7 := by
  obtain ⟨h1, h2, h3⟩ := h
  have hA : ∀ i, S.ahead i = nI (cN (fun j => decide (S.noted j < S.noted i ∨ S.noted j = S.noted i ∧ j < i)) S.n) := fun i => it_cN _ _
  have hL : ∀ i, S.less i = nI (cN (fun j => decide (S.noted j < S.noted i)) S.n) := fun i => it_cN _ _
  have hE : ∀ i, S.alike i = nI (cN (fun j => decide (S.noted j = S.noted i)) S.n) := fun i => it_cN _ _
  rcases Nat.eq_zero_or_pos S.n with z | z
  · unfold NT.mid NT.mid7
    rw [z]
    rfl
  have hm : (S.size - 1) / 2 = nI ((S.n - 1) / 2) := by
    rw [h1, show (1 : Int32) = nI 1 from rfl, pk_sub (by omega), show (2 : Int32) = nI 2 from rfl, pk_div (by omega) (by omega) (by omega)]
  obtain ⟨f1, f2, f3⟩ := mid_facts S.noted S.n ((S.n - 1) / 2)
  have b : ∀ c : Nat → Bool, cN c S.n < 1000 := fun c => by have := cN_ub c S.n; omega
  have cA : ∀ i, decide (S.ahead i = (S.size - 1) / 2) = decide (cN (fun j => decide (S.noted j < S.noted i ∨ S.noted j = S.noted i ∧ j < i)) S.n = (S.n - 1) / 2) := fun i => by
    rw [hA, hm]
    have := b (fun j => decide (S.noted j < S.noted i ∨ S.noted j = S.noted i ∧ j < i))
    congr 1
    exact propext (nI_eq (by omega) (by omega))
  have cR : ∀ i, decide (¬ (S.size - 1) / 2 < S.less i ∧ (S.size - 1) / 2 < S.less i + S.alike i) = decide (cN (fun j => decide (S.noted j < S.noted i)) S.n ≤ (S.n - 1) / 2 ∧ (S.n - 1) / 2 < cN (fun j => decide (S.noted j < S.noted i)) S.n + cN (fun j => decide (S.noted j = S.noted i)) S.n) := fun i => by
    rw [hL, hE, hm, nI_add]
    have h4 := b (fun j => decide (S.noted j < S.noted i))
    have h5 := b (fun j => decide (S.noted j = S.noted i))
    congr 1
    rw [nI_ltI (by omega) (by omega), nI_ltI (by omega) (by omega), Nat.not_lt]
  unfold NT.mid NT.mid7
  simp only [cA, cR]
  cases e1 : fstN (fun i => decide (cN (fun j => decide (S.noted j < S.noted i ∨ S.noted j = S.noted i ∧ j < i)) S.n = (S.n - 1) / 2)) S.n with
  | some i =>
    obtain ⟨hi, g1⟩ := fstN_some e1
    have g1 := f1 i hi (of_decide_eq_true g1)
    cases e2 : fstN (fun i => decide (cN (fun j => decide (S.noted j < S.noted i)) S.n ≤ (S.n - 1) / 2 ∧ (S.n - 1) / 2 < cN (fun j => decide (S.noted j < S.noted i)) S.n + cN (fun j => decide (S.noted j = S.noted i)) S.n)) S.n with
    | some k =>
      obtain ⟨hk, g2⟩ := fstN_some e2
      exact f3 i k hi hk g1 (of_decide_eq_true g2)
    | none =>
      have := fstN_none e2 i hi
      exact absurd g1 (of_decide_eq_false this)
  | none =>
    cases e2 : fstN (fun i => decide (cN (fun j => decide (S.noted j < S.noted i)) S.n ≤ (S.n - 1) / 2 ∧ (S.n - 1) / 2 < cN (fun j => decide (S.noted j < S.noted i)) S.n + cN (fun j => decide (S.noted j = S.noted i)) S.n)) S.n with
    | some k =>
      obtain ⟨hk, g2⟩ := fstN_some e2
      obtain ⟨t, ht, g3⟩ := f2 k hk (of_decide_eq_true g2)
      have := fstN_none e1 t ht
      exact absurd g3 (of_decide_eq_false this)
    | none => rfl
