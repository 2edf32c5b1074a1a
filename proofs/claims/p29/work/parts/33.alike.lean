/-! ===== the law's areAlike ===== -/
def cod_L_areAlike (N : Nat) (xs : Nat → Int32) : List (Nat × Op LT) := [(0, O_aload 0 1), (1, O_callV 0 0 (fun S : LT => S.1) (fun S F => (F, S.2)) (spG yX6_balance cX6_balance 1 (some .int) 2 fpW)), (4, O_aload 1 1), (5, O_callV 0 148 (fun S : LT => S.2) (fun S G => (S.1, G)) (spG yX6_balance cX6_balance 1 (some .int) 2 fpW)), (8, O_icmp_ne 45), (11, O_aload 0 1), (12, O_int 30 2), (14, O_int 0 1), (15, O_callV 2 0 (fun S : LT => S.1) (fun S F => (F, S.2)) (spG yX6_foresee cX6_foresee 4 (some .int) 5 fpW)), (18, O_aload 1 1), (19, O_int 30 2), (21, O_int 0 1), (22, O_callV 2 148 (fun S : LT => S.2) (fun S G => (S.1, G)) (spG yX6_foresee cX6_foresee 4 (some .int) 5 fpW)), (25, O_icmp_ne 45), (28, O_aload 0 1), (29, O_int 0 1), (30, O_callV 1 0 (fun S : LT => S.1) (fun S F => (F, S.2)) (spG yX6_readyAt cX6_readyAt 3 (some .int) 3 fpW)), (33, O_aload 1 1), (34, O_int 0 1), (35, O_callV 1 148 (fun S : LT => S.2) (fun S G => (S.1, G)) (spG yX6_readyAt cX6_readyAt 3 (some .int) 3 fpW)), (38, O_icmp_ne 45), (41, O_int 1 1), (42, O_goto 46), (45, O_int 0 1), (46, O_istore 2 1), (47, O_int 0 1), (48, O_istore 3 1), (49, O_iload 3 1), (50, O_int 15 2), (52, O_icmp_ge 84), (55, O_iload 2 1), (56, O_if_eq 76), (59, O_aload 0 1), (60, O_iload 3 1), (61, O_callV 1 0 (fun S : LT => S.1) (fun S F => (F, S.2)) (spG yX6_station cX6_station 2 (some .int) 3 fpW)), (64, O_aload 1 1), (65, O_iload 3 1), (66, O_callV 1 148 (fun S : LT => S.2) (fun S G => (S.1, G)) (spG yX6_station cX6_station 2 (some .int) 3 fpW)), (69, O_icmp_ne 76), (72, O_int 1 1), (73, O_goto 77), (76, O_int 0 1), (77, O_istore 2 1), (78, O_iinc 3 1), (81, O_goto 49), (84, O_int 0 1), (85, O_istore 3 1), (86, O_iload 3 1), (87, O_int 3 1), (88, O_icmp_ge 165), (91, O_int 0 1), (92, O_istore 4 2), (94, O_iload 4 2), (96, O_int 10 2), (98, O_icmp_ge 159), (101, O_iload 2 1), (102, O_if_eq 151), (105, O_aload 0 1), (106, O_iload 3 1), (107, O_iload 4 2), (109, O_callV 2 0 (fun S : LT => S.1) (fun S F => (F, S.2)) (spG yX6_pumpOf cX6_pumpOf 4 (some .int) 2 fpW)), (112, O_aload 1 1), (113, O_iload 3 1), (114, O_iload 4 2), (116, O_callV 2 148 (fun S : LT => S.2) (fun S G => (S.1, G)) (spG yX6_pumpOf cX6_pumpOf 4 (some .int) 2 fpW)), (119, O_icmp_ne 151), (122, O_iload 4 2), (124, O_int 3 1), (125, O_icmp_gt 147), (128, O_aload 0 1), (129, O_iload 3 1), (130, O_iload 4 2), (132, O_callV 2 0 (fun S : LT => S.1) (fun S F => (F, S.2)) (spG yX6_zoneOf cX6_zoneOf 4 (some .int) 1 fpW)), (135, O_aload 1 1), (136, O_int 2 1), (137, O_iload 3 1), (138, O_isub), (139, O_iload 4 2), (141, O_callV 2 148 (fun S : LT => S.2) (fun S G => (S.1, G)) (spG yX6_zoneOf cX6_zoneOf 4 (some .int) 1 fpW)), (144, O_icmp_ne 151), (147, O_int 1 1), (148, O_goto 152), (151, O_int 0 1), (152, O_istore 2 1), (153, O_iinc 4 1), (156, O_goto 94), (159, O_iinc 3 1), (162, O_goto 86), (165, O_int 0 1), (166, O_istore 3 1), (167, O_iload 3 1), (168, O_aload 0 1), (169, O_int 6 2), (171, O_callV 1 0 (fun S : LT => S.1) (fun S F => (F, S.2)) (spG yX6_count cX6_count 2 (some .int) 2 fpW)), (174, O_icmp_ge 238), (177, O_iload 2 1), (178, O_if_eq 230), (181, O_aload 0 1), (182, O_iload 3 1), (183, O_int 0 1), (184, O_callV 2 0 (fun S : LT => S.1) (fun S F => (F, S.2)) (spG yX6_eventAt cX6_eventAt 5 (some .int) 3 fpW)), (187, O_aload 1 1), (188, O_iload 3 1), (189, O_int 0 1), (190, O_callV 2 148 (fun S : LT => S.2) (fun S G => (S.1, G)) (spG yX6_eventAt cX6_eventAt 5 (some .int) 3 fpW)), (193, O_icmp_ne 230), (196, O_aload 0 1), (197, O_iload 3 1), (198, O_int 1 1), (199, O_callV 2 0 (fun S : LT => S.1) (fun S F => (F, S.2)) (spG yX6_eventAt cX6_eventAt 5 (some .int) 3 fpW)), (202, O_aload 1 1), (203, O_iload 3 1), (204, O_int 1 1), (205, O_callV 2 148 (fun S : LT => S.2) (fun S G => (S.1, G)) (spG yX6_eventAt cX6_eventAt 5 (some .int) 3 fpW)), (208, O_icmp_ne 230), (211, O_aload 0 1), (212, O_iload 3 1), (213, O_int 2 1), (214, O_callV 2 0 (fun S : LT => S.1) (fun S F => (F, S.2)) (spG yX6_eventAt cX6_eventAt 5 (some .int) 3 fpW)), (217, O_aload 1 1), (218, O_iload 3 1), (219, O_int 2 1), (220, O_callV 2 148 (fun S : LT => S.2) (fun S G => (S.1, G)) (spG yX6_eventAt cX6_eventAt 5 (some .int) 3 fpW)), (223, O_icmp_ne 230), (226, O_int 1 1), (227, O_goto 231), (230, O_int 0 1), (231, O_istore 2 1), (232, O_iinc 3 1), (235, O_goto 167), (238, O_iload 2 1), (239, O_zret)]
abbrev cut_L_areAlike : List Nat := [49, 86, 94, 147, 167]
set_option maxRecDepth 100000 in
theorem okc_L_areAlike {E : En} {N : Nat} {xs : Nat → Int32} (F : Fx E RL cL_areAlike 5 6) (G : Fr E (some .boolean)) (Z : LZ N xs E) : CodOk E lW (cod_L_areAlike N xs) := by
  unfold CodOk cod_L_areAlike
  refine List.forall_mem_cons.mpr ⟨ok_aload_n F dL_areAlike_0 rfl (by decide), ?_⟩
  refine List.forall_mem_cons.mpr ⟨ok_callV F (spG_ok yX6_balance cX6_balance 1 (some .int) 2 fpW) ln_lw_F rcv_fpW (by decide +kernel) (by decide) dL_areAlike_1 (by decide), ?_⟩
  refine List.forall_mem_cons.mpr ⟨ok_aload_n F dL_areAlike_4 rfl (by decide), ?_⟩
  refine List.forall_mem_cons.mpr ⟨ok_callV F (spG_ok yX6_balance cX6_balance 1 (some .int) 2 fpW) ln_lw_G rcv_fpW (by decide +kernel) (by decide) dL_areAlike_5 (by decide), ?_⟩
  refine List.forall_mem_cons.mpr ⟨ok_icmp_ne F dL_areAlike_8 (by decide) (by decide) (by decide), ?_⟩
  refine List.forall_mem_cons.mpr ⟨ok_aload_n F dL_areAlike_11 rfl (by decide), ?_⟩
  refine List.forall_mem_cons.mpr ⟨ok_bipush F dL_areAlike_12 (by decide) (by decide), ?_⟩
  refine List.forall_mem_cons.mpr ⟨ok_iconst F dL_areAlike_14 (by decide) (by decide), ?_⟩
  refine List.forall_mem_cons.mpr ⟨ok_callV F (spG_ok yX6_foresee cX6_foresee 4 (some .int) 5 fpW) ln_lw_F rcv_fpW (by decide +kernel) (by decide) dL_areAlike_15 (by decide), ?_⟩
  refine List.forall_mem_cons.mpr ⟨ok_aload_n F dL_areAlike_18 rfl (by decide), ?_⟩
  refine List.forall_mem_cons.mpr ⟨ok_bipush F dL_areAlike_19 (by decide) (by decide), ?_⟩
  refine List.forall_mem_cons.mpr ⟨ok_iconst F dL_areAlike_21 (by decide) (by decide), ?_⟩
  refine List.forall_mem_cons.mpr ⟨ok_callV F (spG_ok yX6_foresee cX6_foresee 4 (some .int) 5 fpW) ln_lw_G rcv_fpW (by decide +kernel) (by decide) dL_areAlike_22 (by decide), ?_⟩
  refine List.forall_mem_cons.mpr ⟨ok_icmp_ne F dL_areAlike_25 (by decide) (by decide) (by decide), ?_⟩
  refine List.forall_mem_cons.mpr ⟨ok_aload_n F dL_areAlike_28 rfl (by decide), ?_⟩
  refine List.forall_mem_cons.mpr ⟨ok_iconst F dL_areAlike_29 (by decide) (by decide), ?_⟩
  refine List.forall_mem_cons.mpr ⟨ok_callV F (spG_ok yX6_readyAt cX6_readyAt 3 (some .int) 3 fpW) ln_lw_F rcv_fpW (by decide +kernel) (by decide) dL_areAlike_30 (by decide), ?_⟩
  refine List.forall_mem_cons.mpr ⟨ok_aload_n F dL_areAlike_33 rfl (by decide), ?_⟩
  refine List.forall_mem_cons.mpr ⟨ok_iconst F dL_areAlike_34 (by decide) (by decide), ?_⟩
  refine List.forall_mem_cons.mpr ⟨ok_callV F (spG_ok yX6_readyAt cX6_readyAt 3 (some .int) 3 fpW) ln_lw_G rcv_fpW (by decide +kernel) (by decide) dL_areAlike_35 (by decide), ?_⟩
  refine List.forall_mem_cons.mpr ⟨ok_icmp_ne F dL_areAlike_38 (by decide) (by decide) (by decide), ?_⟩
  refine List.forall_mem_cons.mpr ⟨ok_iconst F dL_areAlike_41 (by decide) (by decide), ?_⟩
  refine List.forall_mem_cons.mpr ⟨ok_goto F dL_areAlike_42 (by decide) (by decide) (by decide), ?_⟩
  refine List.forall_mem_cons.mpr ⟨ok_iconst F dL_areAlike_45 (by decide) (by decide), ?_⟩
  refine List.forall_mem_cons.mpr ⟨ok_istore_n F dL_areAlike_46 rfl (by decide) (by decide), ?_⟩
  refine List.forall_mem_cons.mpr ⟨ok_iconst F dL_areAlike_47 (by decide) (by decide), ?_⟩
  refine List.forall_mem_cons.mpr ⟨ok_istore_n F dL_areAlike_48 rfl (by decide) (by decide), ?_⟩
  refine List.forall_mem_cons.mpr ⟨ok_iload_n F dL_areAlike_49 rfl (by decide), ?_⟩
  refine List.forall_mem_cons.mpr ⟨ok_bipush F dL_areAlike_50 (by decide) (by decide), ?_⟩
  refine List.forall_mem_cons.mpr ⟨ok_icmp_ge F dL_areAlike_52 (by decide) (by decide) (by decide), ?_⟩
  refine List.forall_mem_cons.mpr ⟨ok_iload_n F dL_areAlike_55 rfl (by decide), ?_⟩
  refine List.forall_mem_cons.mpr ⟨ok_if_eq F dL_areAlike_56 (by decide) (by decide) (by decide), ?_⟩
  refine List.forall_mem_cons.mpr ⟨ok_aload_n F dL_areAlike_59 rfl (by decide), ?_⟩
  refine List.forall_mem_cons.mpr ⟨ok_iload_n F dL_areAlike_60 rfl (by decide), ?_⟩
  refine List.forall_mem_cons.mpr ⟨ok_callV F (spG_ok yX6_station cX6_station 2 (some .int) 3 fpW) ln_lw_F rcv_fpW (by decide +kernel) (by decide) dL_areAlike_61 (by decide), ?_⟩
  refine List.forall_mem_cons.mpr ⟨ok_aload_n F dL_areAlike_64 rfl (by decide), ?_⟩
  refine List.forall_mem_cons.mpr ⟨ok_iload_n F dL_areAlike_65 rfl (by decide), ?_⟩
  refine List.forall_mem_cons.mpr ⟨ok_callV F (spG_ok yX6_station cX6_station 2 (some .int) 3 fpW) ln_lw_G rcv_fpW (by decide +kernel) (by decide) dL_areAlike_66 (by decide), ?_⟩
  refine List.forall_mem_cons.mpr ⟨ok_icmp_ne F dL_areAlike_69 (by decide) (by decide) (by decide), ?_⟩
  refine List.forall_mem_cons.mpr ⟨ok_iconst F dL_areAlike_72 (by decide) (by decide), ?_⟩
  refine List.forall_mem_cons.mpr ⟨ok_goto F dL_areAlike_73 (by decide) (by decide) (by decide), ?_⟩
  refine List.forall_mem_cons.mpr ⟨ok_iconst F dL_areAlike_76 (by decide) (by decide), ?_⟩
  refine List.forall_mem_cons.mpr ⟨ok_istore_n F dL_areAlike_77 rfl (by decide) (by decide), ?_⟩
  refine List.forall_mem_cons.mpr ⟨ok_iinc F dL_areAlike_78 (by decide) (by decide) (by decide), ?_⟩
  refine List.forall_mem_cons.mpr ⟨ok_goto F dL_areAlike_81 (by decide) (by decide) (by decide), ?_⟩
  refine List.forall_mem_cons.mpr ⟨ok_iconst F dL_areAlike_84 (by decide) (by decide), ?_⟩
  refine List.forall_mem_cons.mpr ⟨ok_istore_n F dL_areAlike_85 rfl (by decide) (by decide), ?_⟩
  refine List.forall_mem_cons.mpr ⟨ok_iload_n F dL_areAlike_86 rfl (by decide), ?_⟩
  refine List.forall_mem_cons.mpr ⟨ok_iconst F dL_areAlike_87 (by decide) (by decide), ?_⟩
  refine List.forall_mem_cons.mpr ⟨ok_icmp_ge F dL_areAlike_88 (by decide) (by decide) (by decide), ?_⟩
  refine List.forall_mem_cons.mpr ⟨ok_iconst F dL_areAlike_91 (by decide) (by decide), ?_⟩
  refine List.forall_mem_cons.mpr ⟨ok_istore F dL_areAlike_92 (by decide) (by decide), ?_⟩
  refine List.forall_mem_cons.mpr ⟨ok_iload F dL_areAlike_94 (by decide), ?_⟩
  refine List.forall_mem_cons.mpr ⟨ok_bipush F dL_areAlike_96 (by decide) (by decide), ?_⟩
  refine List.forall_mem_cons.mpr ⟨ok_icmp_ge F dL_areAlike_98 (by decide) (by decide) (by decide), ?_⟩
  refine List.forall_mem_cons.mpr ⟨ok_iload_n F dL_areAlike_101 rfl (by decide), ?_⟩
  refine List.forall_mem_cons.mpr ⟨ok_if_eq F dL_areAlike_102 (by decide) (by decide) (by decide), ?_⟩
  refine List.forall_mem_cons.mpr ⟨ok_aload_n F dL_areAlike_105 rfl (by decide), ?_⟩
  refine List.forall_mem_cons.mpr ⟨ok_iload_n F dL_areAlike_106 rfl (by decide), ?_⟩
  refine List.forall_mem_cons.mpr ⟨ok_iload F dL_areAlike_107 (by decide), ?_⟩
  refine List.forall_mem_cons.mpr ⟨ok_callV F (spG_ok yX6_pumpOf cX6_pumpOf 4 (some .int) 2 fpW) ln_lw_F rcv_fpW (by decide +kernel) (by decide) dL_areAlike_109 (by decide), ?_⟩
  refine List.forall_mem_cons.mpr ⟨ok_aload_n F dL_areAlike_112 rfl (by decide), ?_⟩
  refine List.forall_mem_cons.mpr ⟨ok_iload_n F dL_areAlike_113 rfl (by decide), ?_⟩
  refine List.forall_mem_cons.mpr ⟨ok_iload F dL_areAlike_114 (by decide), ?_⟩
  refine List.forall_mem_cons.mpr ⟨ok_callV F (spG_ok yX6_pumpOf cX6_pumpOf 4 (some .int) 2 fpW) ln_lw_G rcv_fpW (by decide +kernel) (by decide) dL_areAlike_116 (by decide), ?_⟩
  refine List.forall_mem_cons.mpr ⟨ok_icmp_ne F dL_areAlike_119 (by decide) (by decide) (by decide), ?_⟩
  refine List.forall_mem_cons.mpr ⟨ok_iload F dL_areAlike_122 (by decide), ?_⟩
  refine List.forall_mem_cons.mpr ⟨ok_iconst F dL_areAlike_124 (by decide) (by decide), ?_⟩
  refine List.forall_mem_cons.mpr ⟨ok_icmp_gt F dL_areAlike_125 (by decide) (by decide) (by decide), ?_⟩
  refine List.forall_mem_cons.mpr ⟨ok_aload_n F dL_areAlike_128 rfl (by decide), ?_⟩
  refine List.forall_mem_cons.mpr ⟨ok_iload_n F dL_areAlike_129 rfl (by decide), ?_⟩
  refine List.forall_mem_cons.mpr ⟨ok_iload F dL_areAlike_130 (by decide), ?_⟩
  refine List.forall_mem_cons.mpr ⟨ok_callV F (spG_ok yX6_zoneOf cX6_zoneOf 4 (some .int) 1 fpW) ln_lw_F rcv_fpW (by decide +kernel) (by decide) dL_areAlike_132 (by decide), ?_⟩
  refine List.forall_mem_cons.mpr ⟨ok_aload_n F dL_areAlike_135 rfl (by decide), ?_⟩
  refine List.forall_mem_cons.mpr ⟨ok_iconst F dL_areAlike_136 (by decide) (by decide), ?_⟩
  refine List.forall_mem_cons.mpr ⟨ok_iload_n F dL_areAlike_137 rfl (by decide), ?_⟩
  refine List.forall_mem_cons.mpr ⟨ok_isub F dL_areAlike_138 (by decide), ?_⟩
  refine List.forall_mem_cons.mpr ⟨ok_iload F dL_areAlike_139 (by decide), ?_⟩
  refine List.forall_mem_cons.mpr ⟨ok_callV F (spG_ok yX6_zoneOf cX6_zoneOf 4 (some .int) 1 fpW) ln_lw_G rcv_fpW (by decide +kernel) (by decide) dL_areAlike_141 (by decide), ?_⟩
  refine List.forall_mem_cons.mpr ⟨ok_icmp_ne F dL_areAlike_144 (by decide) (by decide) (by decide), ?_⟩
  refine List.forall_mem_cons.mpr ⟨ok_iconst F dL_areAlike_147 (by decide) (by decide), ?_⟩
  refine List.forall_mem_cons.mpr ⟨ok_goto F dL_areAlike_148 (by decide) (by decide) (by decide), ?_⟩
  refine List.forall_mem_cons.mpr ⟨ok_iconst F dL_areAlike_151 (by decide) (by decide), ?_⟩
  refine List.forall_mem_cons.mpr ⟨ok_istore_n F dL_areAlike_152 rfl (by decide) (by decide), ?_⟩
  refine List.forall_mem_cons.mpr ⟨ok_iinc F dL_areAlike_153 (by decide) (by decide) (by decide), ?_⟩
  refine List.forall_mem_cons.mpr ⟨ok_goto F dL_areAlike_156 (by decide) (by decide) (by decide), ?_⟩
  refine List.forall_mem_cons.mpr ⟨ok_iinc F dL_areAlike_159 (by decide) (by decide) (by decide), ?_⟩
  refine List.forall_mem_cons.mpr ⟨ok_goto F dL_areAlike_162 (by decide) (by decide) (by decide), ?_⟩
  refine List.forall_mem_cons.mpr ⟨ok_iconst F dL_areAlike_165 (by decide) (by decide), ?_⟩
  refine List.forall_mem_cons.mpr ⟨ok_istore_n F dL_areAlike_166 rfl (by decide) (by decide), ?_⟩
  refine List.forall_mem_cons.mpr ⟨ok_iload_n F dL_areAlike_167 rfl (by decide), ?_⟩
  refine List.forall_mem_cons.mpr ⟨ok_aload_n F dL_areAlike_168 rfl (by decide), ?_⟩
  refine List.forall_mem_cons.mpr ⟨ok_bipush F dL_areAlike_169 (by decide) (by decide), ?_⟩
  refine List.forall_mem_cons.mpr ⟨ok_callV F (spG_ok yX6_count cX6_count 2 (some .int) 2 fpW) ln_lw_F rcv_fpW (by decide +kernel) (by decide) dL_areAlike_171 (by decide), ?_⟩
  refine List.forall_mem_cons.mpr ⟨ok_icmp_ge F dL_areAlike_174 (by decide) (by decide) (by decide), ?_⟩
  refine List.forall_mem_cons.mpr ⟨ok_iload_n F dL_areAlike_177 rfl (by decide), ?_⟩
  refine List.forall_mem_cons.mpr ⟨ok_if_eq F dL_areAlike_178 (by decide) (by decide) (by decide), ?_⟩
  refine List.forall_mem_cons.mpr ⟨ok_aload_n F dL_areAlike_181 rfl (by decide), ?_⟩
  refine List.forall_mem_cons.mpr ⟨ok_iload_n F dL_areAlike_182 rfl (by decide), ?_⟩
  refine List.forall_mem_cons.mpr ⟨ok_iconst F dL_areAlike_183 (by decide) (by decide), ?_⟩
  refine List.forall_mem_cons.mpr ⟨ok_callV F (spG_ok yX6_eventAt cX6_eventAt 5 (some .int) 3 fpW) ln_lw_F rcv_fpW (by decide +kernel) (by decide) dL_areAlike_184 (by decide), ?_⟩
  refine List.forall_mem_cons.mpr ⟨ok_aload_n F dL_areAlike_187 rfl (by decide), ?_⟩
  refine List.forall_mem_cons.mpr ⟨ok_iload_n F dL_areAlike_188 rfl (by decide), ?_⟩
  refine List.forall_mem_cons.mpr ⟨ok_iconst F dL_areAlike_189 (by decide) (by decide), ?_⟩
  refine List.forall_mem_cons.mpr ⟨ok_callV F (spG_ok yX6_eventAt cX6_eventAt 5 (some .int) 3 fpW) ln_lw_G rcv_fpW (by decide +kernel) (by decide) dL_areAlike_190 (by decide), ?_⟩
  refine List.forall_mem_cons.mpr ⟨ok_icmp_ne F dL_areAlike_193 (by decide) (by decide) (by decide), ?_⟩
  refine List.forall_mem_cons.mpr ⟨ok_aload_n F dL_areAlike_196 rfl (by decide), ?_⟩
  refine List.forall_mem_cons.mpr ⟨ok_iload_n F dL_areAlike_197 rfl (by decide), ?_⟩
  refine List.forall_mem_cons.mpr ⟨ok_iconst F dL_areAlike_198 (by decide) (by decide), ?_⟩
  refine List.forall_mem_cons.mpr ⟨ok_callV F (spG_ok yX6_eventAt cX6_eventAt 5 (some .int) 3 fpW) ln_lw_F rcv_fpW (by decide +kernel) (by decide) dL_areAlike_199 (by decide), ?_⟩
  refine List.forall_mem_cons.mpr ⟨ok_aload_n F dL_areAlike_202 rfl (by decide), ?_⟩
  refine List.forall_mem_cons.mpr ⟨ok_iload_n F dL_areAlike_203 rfl (by decide), ?_⟩
  refine List.forall_mem_cons.mpr ⟨ok_iconst F dL_areAlike_204 (by decide) (by decide), ?_⟩
  refine List.forall_mem_cons.mpr ⟨ok_callV F (spG_ok yX6_eventAt cX6_eventAt 5 (some .int) 3 fpW) ln_lw_G rcv_fpW (by decide +kernel) (by decide) dL_areAlike_205 (by decide), ?_⟩
  refine List.forall_mem_cons.mpr ⟨ok_icmp_ne F dL_areAlike_208 (by decide) (by decide) (by decide), ?_⟩
  refine List.forall_mem_cons.mpr ⟨ok_aload_n F dL_areAlike_211 rfl (by decide), ?_⟩
  refine List.forall_mem_cons.mpr ⟨ok_iload_n F dL_areAlike_212 rfl (by decide), ?_⟩
  refine List.forall_mem_cons.mpr ⟨ok_iconst F dL_areAlike_213 (by decide) (by decide), ?_⟩
  refine List.forall_mem_cons.mpr ⟨ok_callV F (spG_ok yX6_eventAt cX6_eventAt 5 (some .int) 3 fpW) ln_lw_F rcv_fpW (by decide +kernel) (by decide) dL_areAlike_214 (by decide), ?_⟩
  refine List.forall_mem_cons.mpr ⟨ok_aload_n F dL_areAlike_217 rfl (by decide), ?_⟩
  refine List.forall_mem_cons.mpr ⟨ok_iload_n F dL_areAlike_218 rfl (by decide), ?_⟩
  refine List.forall_mem_cons.mpr ⟨ok_iconst F dL_areAlike_219 (by decide) (by decide), ?_⟩
  refine List.forall_mem_cons.mpr ⟨ok_callV F (spG_ok yX6_eventAt cX6_eventAt 5 (some .int) 3 fpW) ln_lw_G rcv_fpW (by decide +kernel) (by decide) dL_areAlike_220 (by decide), ?_⟩
  refine List.forall_mem_cons.mpr ⟨ok_icmp_ne F dL_areAlike_223 (by decide) (by decide) (by decide), ?_⟩
  refine List.forall_mem_cons.mpr ⟨ok_iconst F dL_areAlike_226 (by decide) (by decide), ?_⟩
  refine List.forall_mem_cons.mpr ⟨ok_goto F dL_areAlike_227 (by decide) (by decide) (by decide), ?_⟩
  refine List.forall_mem_cons.mpr ⟨ok_iconst F dL_areAlike_230 (by decide) (by decide), ?_⟩
  refine List.forall_mem_cons.mpr ⟨ok_istore_n F dL_areAlike_231 rfl (by decide) (by decide), ?_⟩
  refine List.forall_mem_cons.mpr ⟨ok_iinc F dL_areAlike_232 (by decide) (by decide) (by decide), ?_⟩
  refine List.forall_mem_cons.mpr ⟨ok_goto F dL_areAlike_235 (by decide) (by decide) (by decide), ?_⟩
  refine List.forall_mem_cons.mpr ⟨ok_iload_n F dL_areAlike_238 rfl (by decide), ?_⟩
  refine List.forall_mem_cons.mpr ⟨ok_zret F G dL_areAlike_239 (by decide), ?_⟩
  exact fun _ h => absurd h List.not_mem_nil
set_option maxRecDepth 100000 in
theorem w_L_areAlike (N : Nat) (xs : Nat → Int32) : (∀ (K : Kt LT) (k : Nat) (L : xL) (st : List Value) (S : LT), nx (cod_L_areAlike N xs) cut_L_areAlike K (k + 1) 0 L st S = (O_aload 0 1) (nx (cod_L_areAlike N xs) cut_L_areAlike K k) 0 L st S) ∧
  (∀ (K : Kt LT) (k : Nat) (L : xL) (st : List Value) (S : LT), nx (cod_L_areAlike N xs) cut_L_areAlike K (k + 1) 1 L st S = (O_callV 0 0 (fun S : LT => S.1) (fun S F => (F, S.2)) (spG yX6_balance cX6_balance 1 (some .int) 2 fpW)) (nx (cod_L_areAlike N xs) cut_L_areAlike K k) 1 L st S) ∧
  (∀ (K : Kt LT) (k : Nat) (L : xL) (st : List Value) (S : LT), nx (cod_L_areAlike N xs) cut_L_areAlike K (k + 1) 4 L st S = (O_aload 1 1) (nx (cod_L_areAlike N xs) cut_L_areAlike K k) 4 L st S) ∧
  (∀ (K : Kt LT) (k : Nat) (L : xL) (st : List Value) (S : LT), nx (cod_L_areAlike N xs) cut_L_areAlike K (k + 1) 5 L st S = (O_callV 0 148 (fun S : LT => S.2) (fun S G => (S.1, G)) (spG yX6_balance cX6_balance 1 (some .int) 2 fpW)) (nx (cod_L_areAlike N xs) cut_L_areAlike K k) 5 L st S) ∧
  (∀ (K : Kt LT) (k : Nat) (L : xL) (st : List Value) (S : LT), nx (cod_L_areAlike N xs) cut_L_areAlike K (k + 1) 8 L st S = (O_icmp_ne 45) (nx (cod_L_areAlike N xs) cut_L_areAlike K k) 8 L st S) ∧
  (∀ (K : Kt LT) (k : Nat) (L : xL) (st : List Value) (S : LT), nx (cod_L_areAlike N xs) cut_L_areAlike K (k + 1) 11 L st S = (O_aload 0 1) (nx (cod_L_areAlike N xs) cut_L_areAlike K k) 11 L st S) ∧
  (∀ (K : Kt LT) (k : Nat) (L : xL) (st : List Value) (S : LT), nx (cod_L_areAlike N xs) cut_L_areAlike K (k + 1) 12 L st S = (O_int 30 2) (nx (cod_L_areAlike N xs) cut_L_areAlike K k) 12 L st S) ∧
  (∀ (K : Kt LT) (k : Nat) (L : xL) (st : List Value) (S : LT), nx (cod_L_areAlike N xs) cut_L_areAlike K (k + 1) 14 L st S = (O_int 0 1) (nx (cod_L_areAlike N xs) cut_L_areAlike K k) 14 L st S) ∧
  (∀ (K : Kt LT) (k : Nat) (L : xL) (st : List Value) (S : LT), nx (cod_L_areAlike N xs) cut_L_areAlike K (k + 1) 15 L st S = (O_callV 2 0 (fun S : LT => S.1) (fun S F => (F, S.2)) (spG yX6_foresee cX6_foresee 4 (some .int) 5 fpW)) (nx (cod_L_areAlike N xs) cut_L_areAlike K k) 15 L st S) ∧
  (∀ (K : Kt LT) (k : Nat) (L : xL) (st : List Value) (S : LT), nx (cod_L_areAlike N xs) cut_L_areAlike K (k + 1) 18 L st S = (O_aload 1 1) (nx (cod_L_areAlike N xs) cut_L_areAlike K k) 18 L st S) ∧
  (∀ (K : Kt LT) (k : Nat) (L : xL) (st : List Value) (S : LT), nx (cod_L_areAlike N xs) cut_L_areAlike K (k + 1) 19 L st S = (O_int 30 2) (nx (cod_L_areAlike N xs) cut_L_areAlike K k) 19 L st S) ∧
  (∀ (K : Kt LT) (k : Nat) (L : xL) (st : List Value) (S : LT), nx (cod_L_areAlike N xs) cut_L_areAlike K (k + 1) 21 L st S = (O_int 0 1) (nx (cod_L_areAlike N xs) cut_L_areAlike K k) 21 L st S) ∧
  (∀ (K : Kt LT) (k : Nat) (L : xL) (st : List Value) (S : LT), nx (cod_L_areAlike N xs) cut_L_areAlike K (k + 1) 22 L st S = (O_callV 2 148 (fun S : LT => S.2) (fun S G => (S.1, G)) (spG yX6_foresee cX6_foresee 4 (some .int) 5 fpW)) (nx (cod_L_areAlike N xs) cut_L_areAlike K k) 22 L st S) ∧
  (∀ (K : Kt LT) (k : Nat) (L : xL) (st : List Value) (S : LT), nx (cod_L_areAlike N xs) cut_L_areAlike K (k + 1) 25 L st S = (O_icmp_ne 45) (nx (cod_L_areAlike N xs) cut_L_areAlike K k) 25 L st S) ∧
  (∀ (K : Kt LT) (k : Nat) (L : xL) (st : List Value) (S : LT), nx (cod_L_areAlike N xs) cut_L_areAlike K (k + 1) 28 L st S = (O_aload 0 1) (nx (cod_L_areAlike N xs) cut_L_areAlike K k) 28 L st S) ∧
  (∀ (K : Kt LT) (k : Nat) (L : xL) (st : List Value) (S : LT), nx (cod_L_areAlike N xs) cut_L_areAlike K (k + 1) 29 L st S = (O_int 0 1) (nx (cod_L_areAlike N xs) cut_L_areAlike K k) 29 L st S) ∧
  (∀ (K : Kt LT) (k : Nat) (L : xL) (st : List Value) (S : LT), nx (cod_L_areAlike N xs) cut_L_areAlike K (k + 1) 30 L st S = (O_callV 1 0 (fun S : LT => S.1) (fun S F => (F, S.2)) (spG yX6_readyAt cX6_readyAt 3 (some .int) 3 fpW)) (nx (cod_L_areAlike N xs) cut_L_areAlike K k) 30 L st S) ∧
  (∀ (K : Kt LT) (k : Nat) (L : xL) (st : List Value) (S : LT), nx (cod_L_areAlike N xs) cut_L_areAlike K (k + 1) 33 L st S = (O_aload 1 1) (nx (cod_L_areAlike N xs) cut_L_areAlike K k) 33 L st S) ∧
  (∀ (K : Kt LT) (k : Nat) (L : xL) (st : List Value) (S : LT), nx (cod_L_areAlike N xs) cut_L_areAlike K (k + 1) 34 L st S = (O_int 0 1) (nx (cod_L_areAlike N xs) cut_L_areAlike K k) 34 L st S) ∧
  (∀ (K : Kt LT) (k : Nat) (L : xL) (st : List Value) (S : LT), nx (cod_L_areAlike N xs) cut_L_areAlike K (k + 1) 35 L st S = (O_callV 1 148 (fun S : LT => S.2) (fun S G => (S.1, G)) (spG yX6_readyAt cX6_readyAt 3 (some .int) 3 fpW)) (nx (cod_L_areAlike N xs) cut_L_areAlike K k) 35 L st S) ∧
  (∀ (K : Kt LT) (k : Nat) (L : xL) (st : List Value) (S : LT), nx (cod_L_areAlike N xs) cut_L_areAlike K (k + 1) 38 L st S = (O_icmp_ne 45) (nx (cod_L_areAlike N xs) cut_L_areAlike K k) 38 L st S) ∧
  (∀ (K : Kt LT) (k : Nat) (L : xL) (st : List Value) (S : LT), nx (cod_L_areAlike N xs) cut_L_areAlike K (k + 1) 41 L st S = (O_int 1 1) (nx (cod_L_areAlike N xs) cut_L_areAlike K k) 41 L st S) ∧
  (∀ (K : Kt LT) (k : Nat) (L : xL) (st : List Value) (S : LT), nx (cod_L_areAlike N xs) cut_L_areAlike K (k + 1) 42 L st S = (O_goto 46) (nx (cod_L_areAlike N xs) cut_L_areAlike K k) 42 L st S) ∧
  (∀ (K : Kt LT) (k : Nat) (L : xL) (st : List Value) (S : LT), nx (cod_L_areAlike N xs) cut_L_areAlike K (k + 1) 45 L st S = (O_int 0 1) (nx (cod_L_areAlike N xs) cut_L_areAlike K k) 45 L st S) ∧
  (∀ (K : Kt LT) (k : Nat) (L : xL) (st : List Value) (S : LT), nx (cod_L_areAlike N xs) cut_L_areAlike K (k + 1) 46 L st S = (O_istore 2 1) (nx (cod_L_areAlike N xs) cut_L_areAlike K k) 46 L st S) ∧
  (∀ (K : Kt LT) (k : Nat) (L : xL) (st : List Value) (S : LT), nx (cod_L_areAlike N xs) cut_L_areAlike K (k + 1) 47 L st S = (O_int 0 1) (nx (cod_L_areAlike N xs) cut_L_areAlike K k) 47 L st S) ∧
  (∀ (K : Kt LT) (k : Nat) (L : xL) (st : List Value) (S : LT), nx (cod_L_areAlike N xs) cut_L_areAlike K (k + 1) 48 L st S = (O_istore 3 1) (nx (cod_L_areAlike N xs) cut_L_areAlike K k) 48 L st S) ∧
  (∀ (K : Kt LT) (k : Nat) (L : xL) (st : List Value) (S : LT), nx (cod_L_areAlike N xs) cut_L_areAlike K (k + 1) 49 L st S = K 49 L st S) ∧
  (∀ (K : Kt LT) (k : Nat) (L : xL) (st : List Value) (S : LT), nx1 (cod_L_areAlike N xs) cut_L_areAlike K k 49 L st S = (O_iload 3 1) (nx (cod_L_areAlike N xs) cut_L_areAlike K k) 49 L st S) ∧
  (∀ (K : Kt LT) (k : Nat) (L : xL) (st : List Value) (S : LT), nx (cod_L_areAlike N xs) cut_L_areAlike K (k + 1) 50 L st S = (O_int 15 2) (nx (cod_L_areAlike N xs) cut_L_areAlike K k) 50 L st S) ∧
  (∀ (K : Kt LT) (k : Nat) (L : xL) (st : List Value) (S : LT), nx (cod_L_areAlike N xs) cut_L_areAlike K (k + 1) 52 L st S = (O_icmp_ge 84) (nx (cod_L_areAlike N xs) cut_L_areAlike K k) 52 L st S) ∧
  (∀ (K : Kt LT) (k : Nat) (L : xL) (st : List Value) (S : LT), nx (cod_L_areAlike N xs) cut_L_areAlike K (k + 1) 55 L st S = (O_iload 2 1) (nx (cod_L_areAlike N xs) cut_L_areAlike K k) 55 L st S) ∧
  (∀ (K : Kt LT) (k : Nat) (L : xL) (st : List Value) (S : LT), nx (cod_L_areAlike N xs) cut_L_areAlike K (k + 1) 56 L st S = (O_if_eq 76) (nx (cod_L_areAlike N xs) cut_L_areAlike K k) 56 L st S) ∧
  (∀ (K : Kt LT) (k : Nat) (L : xL) (st : List Value) (S : LT), nx (cod_L_areAlike N xs) cut_L_areAlike K (k + 1) 59 L st S = (O_aload 0 1) (nx (cod_L_areAlike N xs) cut_L_areAlike K k) 59 L st S) ∧
  (∀ (K : Kt LT) (k : Nat) (L : xL) (st : List Value) (S : LT), nx (cod_L_areAlike N xs) cut_L_areAlike K (k + 1) 60 L st S = (O_iload 3 1) (nx (cod_L_areAlike N xs) cut_L_areAlike K k) 60 L st S) ∧
  (∀ (K : Kt LT) (k : Nat) (L : xL) (st : List Value) (S : LT), nx (cod_L_areAlike N xs) cut_L_areAlike K (k + 1) 61 L st S = (O_callV 1 0 (fun S : LT => S.1) (fun S F => (F, S.2)) (spG yX6_station cX6_station 2 (some .int) 3 fpW)) (nx (cod_L_areAlike N xs) cut_L_areAlike K k) 61 L st S) ∧
  (∀ (K : Kt LT) (k : Nat) (L : xL) (st : List Value) (S : LT), nx (cod_L_areAlike N xs) cut_L_areAlike K (k + 1) 64 L st S = (O_aload 1 1) (nx (cod_L_areAlike N xs) cut_L_areAlike K k) 64 L st S) ∧
  (∀ (K : Kt LT) (k : Nat) (L : xL) (st : List Value) (S : LT), nx (cod_L_areAlike N xs) cut_L_areAlike K (k + 1) 65 L st S = (O_iload 3 1) (nx (cod_L_areAlike N xs) cut_L_areAlike K k) 65 L st S) ∧
  (∀ (K : Kt LT) (k : Nat) (L : xL) (st : List Value) (S : LT), nx (cod_L_areAlike N xs) cut_L_areAlike K (k + 1) 66 L st S = (O_callV 1 148 (fun S : LT => S.2) (fun S G => (S.1, G)) (spG yX6_station cX6_station 2 (some .int) 3 fpW)) (nx (cod_L_areAlike N xs) cut_L_areAlike K k) 66 L st S) ∧
  (∀ (K : Kt LT) (k : Nat) (L : xL) (st : List Value) (S : LT), nx (cod_L_areAlike N xs) cut_L_areAlike K (k + 1) 69 L st S = (O_icmp_ne 76) (nx (cod_L_areAlike N xs) cut_L_areAlike K k) 69 L st S) ∧
  (∀ (K : Kt LT) (k : Nat) (L : xL) (st : List Value) (S : LT), nx (cod_L_areAlike N xs) cut_L_areAlike K (k + 1) 72 L st S = (O_int 1 1) (nx (cod_L_areAlike N xs) cut_L_areAlike K k) 72 L st S) ∧
  (∀ (K : Kt LT) (k : Nat) (L : xL) (st : List Value) (S : LT), nx (cod_L_areAlike N xs) cut_L_areAlike K (k + 1) 73 L st S = (O_goto 77) (nx (cod_L_areAlike N xs) cut_L_areAlike K k) 73 L st S) ∧
  (∀ (K : Kt LT) (k : Nat) (L : xL) (st : List Value) (S : LT), nx (cod_L_areAlike N xs) cut_L_areAlike K (k + 1) 76 L st S = (O_int 0 1) (nx (cod_L_areAlike N xs) cut_L_areAlike K k) 76 L st S) ∧
  (∀ (K : Kt LT) (k : Nat) (L : xL) (st : List Value) (S : LT), nx (cod_L_areAlike N xs) cut_L_areAlike K (k + 1) 77 L st S = (O_istore 2 1) (nx (cod_L_areAlike N xs) cut_L_areAlike K k) 77 L st S) ∧
  (∀ (K : Kt LT) (k : Nat) (L : xL) (st : List Value) (S : LT), nx (cod_L_areAlike N xs) cut_L_areAlike K (k + 1) 78 L st S = (O_iinc 3 1) (nx (cod_L_areAlike N xs) cut_L_areAlike K k) 78 L st S) ∧
  (∀ (K : Kt LT) (k : Nat) (L : xL) (st : List Value) (S : LT), nx (cod_L_areAlike N xs) cut_L_areAlike K (k + 1) 81 L st S = (O_goto 49) (nx (cod_L_areAlike N xs) cut_L_areAlike K k) 81 L st S) ∧
  (∀ (K : Kt LT) (k : Nat) (L : xL) (st : List Value) (S : LT), nx (cod_L_areAlike N xs) cut_L_areAlike K (k + 1) 84 L st S = (O_int 0 1) (nx (cod_L_areAlike N xs) cut_L_areAlike K k) 84 L st S) ∧
  (∀ (K : Kt LT) (k : Nat) (L : xL) (st : List Value) (S : LT), nx (cod_L_areAlike N xs) cut_L_areAlike K (k + 1) 85 L st S = (O_istore 3 1) (nx (cod_L_areAlike N xs) cut_L_areAlike K k) 85 L st S) ∧
  (∀ (K : Kt LT) (k : Nat) (L : xL) (st : List Value) (S : LT), nx (cod_L_areAlike N xs) cut_L_areAlike K (k + 1) 86 L st S = K 86 L st S) ∧
  (∀ (K : Kt LT) (k : Nat) (L : xL) (st : List Value) (S : LT), nx1 (cod_L_areAlike N xs) cut_L_areAlike K k 86 L st S = (O_iload 3 1) (nx (cod_L_areAlike N xs) cut_L_areAlike K k) 86 L st S) ∧
  (∀ (K : Kt LT) (k : Nat) (L : xL) (st : List Value) (S : LT), nx (cod_L_areAlike N xs) cut_L_areAlike K (k + 1) 87 L st S = (O_int 3 1) (nx (cod_L_areAlike N xs) cut_L_areAlike K k) 87 L st S) ∧
  (∀ (K : Kt LT) (k : Nat) (L : xL) (st : List Value) (S : LT), nx (cod_L_areAlike N xs) cut_L_areAlike K (k + 1) 88 L st S = (O_icmp_ge 165) (nx (cod_L_areAlike N xs) cut_L_areAlike K k) 88 L st S) ∧
  (∀ (K : Kt LT) (k : Nat) (L : xL) (st : List Value) (S : LT), nx (cod_L_areAlike N xs) cut_L_areAlike K (k + 1) 91 L st S = (O_int 0 1) (nx (cod_L_areAlike N xs) cut_L_areAlike K k) 91 L st S) ∧
  (∀ (K : Kt LT) (k : Nat) (L : xL) (st : List Value) (S : LT), nx (cod_L_areAlike N xs) cut_L_areAlike K (k + 1) 92 L st S = (O_istore 4 2) (nx (cod_L_areAlike N xs) cut_L_areAlike K k) 92 L st S) ∧
  (∀ (K : Kt LT) (k : Nat) (L : xL) (st : List Value) (S : LT), nx (cod_L_areAlike N xs) cut_L_areAlike K (k + 1) 94 L st S = K 94 L st S) ∧
  (∀ (K : Kt LT) (k : Nat) (L : xL) (st : List Value) (S : LT), nx1 (cod_L_areAlike N xs) cut_L_areAlike K k 94 L st S = (O_iload 4 2) (nx (cod_L_areAlike N xs) cut_L_areAlike K k) 94 L st S) ∧
  (∀ (K : Kt LT) (k : Nat) (L : xL) (st : List Value) (S : LT), nx (cod_L_areAlike N xs) cut_L_areAlike K (k + 1) 96 L st S = (O_int 10 2) (nx (cod_L_areAlike N xs) cut_L_areAlike K k) 96 L st S) ∧
  (∀ (K : Kt LT) (k : Nat) (L : xL) (st : List Value) (S : LT), nx (cod_L_areAlike N xs) cut_L_areAlike K (k + 1) 98 L st S = (O_icmp_ge 159) (nx (cod_L_areAlike N xs) cut_L_areAlike K k) 98 L st S) ∧
  (∀ (K : Kt LT) (k : Nat) (L : xL) (st : List Value) (S : LT), nx (cod_L_areAlike N xs) cut_L_areAlike K (k + 1) 101 L st S = (O_iload 2 1) (nx (cod_L_areAlike N xs) cut_L_areAlike K k) 101 L st S) ∧
  (∀ (K : Kt LT) (k : Nat) (L : xL) (st : List Value) (S : LT), nx (cod_L_areAlike N xs) cut_L_areAlike K (k + 1) 102 L st S = (O_if_eq 151) (nx (cod_L_areAlike N xs) cut_L_areAlike K k) 102 L st S) ∧
  (∀ (K : Kt LT) (k : Nat) (L : xL) (st : List Value) (S : LT), nx (cod_L_areAlike N xs) cut_L_areAlike K (k + 1) 105 L st S = (O_aload 0 1) (nx (cod_L_areAlike N xs) cut_L_areAlike K k) 105 L st S) ∧
  (∀ (K : Kt LT) (k : Nat) (L : xL) (st : List Value) (S : LT), nx (cod_L_areAlike N xs) cut_L_areAlike K (k + 1) 106 L st S = (O_iload 3 1) (nx (cod_L_areAlike N xs) cut_L_areAlike K k) 106 L st S) ∧
  (∀ (K : Kt LT) (k : Nat) (L : xL) (st : List Value) (S : LT), nx (cod_L_areAlike N xs) cut_L_areAlike K (k + 1) 107 L st S = (O_iload 4 2) (nx (cod_L_areAlike N xs) cut_L_areAlike K k) 107 L st S) ∧
  (∀ (K : Kt LT) (k : Nat) (L : xL) (st : List Value) (S : LT), nx (cod_L_areAlike N xs) cut_L_areAlike K (k + 1) 109 L st S = (O_callV 2 0 (fun S : LT => S.1) (fun S F => (F, S.2)) (spG yX6_pumpOf cX6_pumpOf 4 (some .int) 2 fpW)) (nx (cod_L_areAlike N xs) cut_L_areAlike K k) 109 L st S) ∧
  (∀ (K : Kt LT) (k : Nat) (L : xL) (st : List Value) (S : LT), nx (cod_L_areAlike N xs) cut_L_areAlike K (k + 1) 112 L st S = (O_aload 1 1) (nx (cod_L_areAlike N xs) cut_L_areAlike K k) 112 L st S) ∧
  (∀ (K : Kt LT) (k : Nat) (L : xL) (st : List Value) (S : LT), nx (cod_L_areAlike N xs) cut_L_areAlike K (k + 1) 113 L st S = (O_iload 3 1) (nx (cod_L_areAlike N xs) cut_L_areAlike K k) 113 L st S) ∧
  (∀ (K : Kt LT) (k : Nat) (L : xL) (st : List Value) (S : LT), nx (cod_L_areAlike N xs) cut_L_areAlike K (k + 1) 114 L st S = (O_iload 4 2) (nx (cod_L_areAlike N xs) cut_L_areAlike K k) 114 L st S) ∧
  (∀ (K : Kt LT) (k : Nat) (L : xL) (st : List Value) (S : LT), nx (cod_L_areAlike N xs) cut_L_areAlike K (k + 1) 116 L st S = (O_callV 2 148 (fun S : LT => S.2) (fun S G => (S.1, G)) (spG yX6_pumpOf cX6_pumpOf 4 (some .int) 2 fpW)) (nx (cod_L_areAlike N xs) cut_L_areAlike K k) 116 L st S) ∧
  (∀ (K : Kt LT) (k : Nat) (L : xL) (st : List Value) (S : LT), nx (cod_L_areAlike N xs) cut_L_areAlike K (k + 1) 119 L st S = (O_icmp_ne 151) (nx (cod_L_areAlike N xs) cut_L_areAlike K k) 119 L st S) ∧
  (∀ (K : Kt LT) (k : Nat) (L : xL) (st : List Value) (S : LT), nx (cod_L_areAlike N xs) cut_L_areAlike K (k + 1) 122 L st S = (O_iload 4 2) (nx (cod_L_areAlike N xs) cut_L_areAlike K k) 122 L st S) ∧
  (∀ (K : Kt LT) (k : Nat) (L : xL) (st : List Value) (S : LT), nx (cod_L_areAlike N xs) cut_L_areAlike K (k + 1) 124 L st S = (O_int 3 1) (nx (cod_L_areAlike N xs) cut_L_areAlike K k) 124 L st S) ∧
  (∀ (K : Kt LT) (k : Nat) (L : xL) (st : List Value) (S : LT), nx (cod_L_areAlike N xs) cut_L_areAlike K (k + 1) 125 L st S = (O_icmp_gt 147) (nx (cod_L_areAlike N xs) cut_L_areAlike K k) 125 L st S) ∧
  (∀ (K : Kt LT) (k : Nat) (L : xL) (st : List Value) (S : LT), nx (cod_L_areAlike N xs) cut_L_areAlike K (k + 1) 128 L st S = (O_aload 0 1) (nx (cod_L_areAlike N xs) cut_L_areAlike K k) 128 L st S) ∧
  (∀ (K : Kt LT) (k : Nat) (L : xL) (st : List Value) (S : LT), nx (cod_L_areAlike N xs) cut_L_areAlike K (k + 1) 129 L st S = (O_iload 3 1) (nx (cod_L_areAlike N xs) cut_L_areAlike K k) 129 L st S) ∧
  (∀ (K : Kt LT) (k : Nat) (L : xL) (st : List Value) (S : LT), nx (cod_L_areAlike N xs) cut_L_areAlike K (k + 1) 130 L st S = (O_iload 4 2) (nx (cod_L_areAlike N xs) cut_L_areAlike K k) 130 L st S) ∧
  (∀ (K : Kt LT) (k : Nat) (L : xL) (st : List Value) (S : LT), nx (cod_L_areAlike N xs) cut_L_areAlike K (k + 1) 132 L st S = (O_callV 2 0 (fun S : LT => S.1) (fun S F => (F, S.2)) (spG yX6_zoneOf cX6_zoneOf 4 (some .int) 1 fpW)) (nx (cod_L_areAlike N xs) cut_L_areAlike K k) 132 L st S) ∧
  (∀ (K : Kt LT) (k : Nat) (L : xL) (st : List Value) (S : LT), nx (cod_L_areAlike N xs) cut_L_areAlike K (k + 1) 135 L st S = (O_aload 1 1) (nx (cod_L_areAlike N xs) cut_L_areAlike K k) 135 L st S) ∧
  (∀ (K : Kt LT) (k : Nat) (L : xL) (st : List Value) (S : LT), nx (cod_L_areAlike N xs) cut_L_areAlike K (k + 1) 136 L st S = (O_int 2 1) (nx (cod_L_areAlike N xs) cut_L_areAlike K k) 136 L st S) ∧
  (∀ (K : Kt LT) (k : Nat) (L : xL) (st : List Value) (S : LT), nx (cod_L_areAlike N xs) cut_L_areAlike K (k + 1) 137 L st S = (O_iload 3 1) (nx (cod_L_areAlike N xs) cut_L_areAlike K k) 137 L st S) ∧
  (∀ (K : Kt LT) (k : Nat) (L : xL) (st : List Value) (S : LT), nx (cod_L_areAlike N xs) cut_L_areAlike K (k + 1) 138 L st S = (O_isub) (nx (cod_L_areAlike N xs) cut_L_areAlike K k) 138 L st S) ∧
  (∀ (K : Kt LT) (k : Nat) (L : xL) (st : List Value) (S : LT), nx (cod_L_areAlike N xs) cut_L_areAlike K (k + 1) 139 L st S = (O_iload 4 2) (nx (cod_L_areAlike N xs) cut_L_areAlike K k) 139 L st S) ∧
  (∀ (K : Kt LT) (k : Nat) (L : xL) (st : List Value) (S : LT), nx (cod_L_areAlike N xs) cut_L_areAlike K (k + 1) 141 L st S = (O_callV 2 148 (fun S : LT => S.2) (fun S G => (S.1, G)) (spG yX6_zoneOf cX6_zoneOf 4 (some .int) 1 fpW)) (nx (cod_L_areAlike N xs) cut_L_areAlike K k) 141 L st S) ∧
  (∀ (K : Kt LT) (k : Nat) (L : xL) (st : List Value) (S : LT), nx (cod_L_areAlike N xs) cut_L_areAlike K (k + 1) 144 L st S = (O_icmp_ne 151) (nx (cod_L_areAlike N xs) cut_L_areAlike K k) 144 L st S) ∧
  (∀ (K : Kt LT) (k : Nat) (L : xL) (st : List Value) (S : LT), nx (cod_L_areAlike N xs) cut_L_areAlike K (k + 1) 147 L st S = K 147 L st S) ∧
  (∀ (K : Kt LT) (k : Nat) (L : xL) (st : List Value) (S : LT), nx1 (cod_L_areAlike N xs) cut_L_areAlike K k 147 L st S = (O_int 1 1) (nx (cod_L_areAlike N xs) cut_L_areAlike K k) 147 L st S) ∧
  (∀ (K : Kt LT) (k : Nat) (L : xL) (st : List Value) (S : LT), nx (cod_L_areAlike N xs) cut_L_areAlike K (k + 1) 148 L st S = (O_goto 152) (nx (cod_L_areAlike N xs) cut_L_areAlike K k) 148 L st S) ∧
  (∀ (K : Kt LT) (k : Nat) (L : xL) (st : List Value) (S : LT), nx (cod_L_areAlike N xs) cut_L_areAlike K (k + 1) 151 L st S = (O_int 0 1) (nx (cod_L_areAlike N xs) cut_L_areAlike K k) 151 L st S) ∧
  (∀ (K : Kt LT) (k : Nat) (L : xL) (st : List Value) (S : LT), nx (cod_L_areAlike N xs) cut_L_areAlike K (k + 1) 152 L st S = (O_istore 2 1) (nx (cod_L_areAlike N xs) cut_L_areAlike K k) 152 L st S) ∧
  (∀ (K : Kt LT) (k : Nat) (L : xL) (st : List Value) (S : LT), nx (cod_L_areAlike N xs) cut_L_areAlike K (k + 1) 153 L st S = (O_iinc 4 1) (nx (cod_L_areAlike N xs) cut_L_areAlike K k) 153 L st S) ∧
  (∀ (K : Kt LT) (k : Nat) (L : xL) (st : List Value) (S : LT), nx (cod_L_areAlike N xs) cut_L_areAlike K (k + 1) 156 L st S = (O_goto 94) (nx (cod_L_areAlike N xs) cut_L_areAlike K k) 156 L st S) ∧
  (∀ (K : Kt LT) (k : Nat) (L : xL) (st : List Value) (S : LT), nx (cod_L_areAlike N xs) cut_L_areAlike K (k + 1) 159 L st S = (O_iinc 3 1) (nx (cod_L_areAlike N xs) cut_L_areAlike K k) 159 L st S) ∧
  (∀ (K : Kt LT) (k : Nat) (L : xL) (st : List Value) (S : LT), nx (cod_L_areAlike N xs) cut_L_areAlike K (k + 1) 162 L st S = (O_goto 86) (nx (cod_L_areAlike N xs) cut_L_areAlike K k) 162 L st S) ∧
  (∀ (K : Kt LT) (k : Nat) (L : xL) (st : List Value) (S : LT), nx (cod_L_areAlike N xs) cut_L_areAlike K (k + 1) 165 L st S = (O_int 0 1) (nx (cod_L_areAlike N xs) cut_L_areAlike K k) 165 L st S) ∧
  (∀ (K : Kt LT) (k : Nat) (L : xL) (st : List Value) (S : LT), nx (cod_L_areAlike N xs) cut_L_areAlike K (k + 1) 166 L st S = (O_istore 3 1) (nx (cod_L_areAlike N xs) cut_L_areAlike K k) 166 L st S) ∧
  (∀ (K : Kt LT) (k : Nat) (L : xL) (st : List Value) (S : LT), nx (cod_L_areAlike N xs) cut_L_areAlike K (k + 1) 167 L st S = K 167 L st S) ∧
  (∀ (K : Kt LT) (k : Nat) (L : xL) (st : List Value) (S : LT), nx1 (cod_L_areAlike N xs) cut_L_areAlike K k 167 L st S = (O_iload 3 1) (nx (cod_L_areAlike N xs) cut_L_areAlike K k) 167 L st S) ∧
  (∀ (K : Kt LT) (k : Nat) (L : xL) (st : List Value) (S : LT), nx (cod_L_areAlike N xs) cut_L_areAlike K (k + 1) 168 L st S = (O_aload 0 1) (nx (cod_L_areAlike N xs) cut_L_areAlike K k) 168 L st S) ∧
  (∀ (K : Kt LT) (k : Nat) (L : xL) (st : List Value) (S : LT), nx (cod_L_areAlike N xs) cut_L_areAlike K (k + 1) 169 L st S = (O_int 6 2) (nx (cod_L_areAlike N xs) cut_L_areAlike K k) 169 L st S) ∧
  (∀ (K : Kt LT) (k : Nat) (L : xL) (st : List Value) (S : LT), nx (cod_L_areAlike N xs) cut_L_areAlike K (k + 1) 171 L st S = (O_callV 1 0 (fun S : LT => S.1) (fun S F => (F, S.2)) (spG yX6_count cX6_count 2 (some .int) 2 fpW)) (nx (cod_L_areAlike N xs) cut_L_areAlike K k) 171 L st S) ∧
  (∀ (K : Kt LT) (k : Nat) (L : xL) (st : List Value) (S : LT), nx (cod_L_areAlike N xs) cut_L_areAlike K (k + 1) 174 L st S = (O_icmp_ge 238) (nx (cod_L_areAlike N xs) cut_L_areAlike K k) 174 L st S) ∧
  (∀ (K : Kt LT) (k : Nat) (L : xL) (st : List Value) (S : LT), nx (cod_L_areAlike N xs) cut_L_areAlike K (k + 1) 177 L st S = (O_iload 2 1) (nx (cod_L_areAlike N xs) cut_L_areAlike K k) 177 L st S) ∧
  (∀ (K : Kt LT) (k : Nat) (L : xL) (st : List Value) (S : LT), nx (cod_L_areAlike N xs) cut_L_areAlike K (k + 1) 178 L st S = (O_if_eq 230) (nx (cod_L_areAlike N xs) cut_L_areAlike K k) 178 L st S) ∧
  (∀ (K : Kt LT) (k : Nat) (L : xL) (st : List Value) (S : LT), nx (cod_L_areAlike N xs) cut_L_areAlike K (k + 1) 181 L st S = (O_aload 0 1) (nx (cod_L_areAlike N xs) cut_L_areAlike K k) 181 L st S) ∧
  (∀ (K : Kt LT) (k : Nat) (L : xL) (st : List Value) (S : LT), nx (cod_L_areAlike N xs) cut_L_areAlike K (k + 1) 182 L st S = (O_iload 3 1) (nx (cod_L_areAlike N xs) cut_L_areAlike K k) 182 L st S) ∧
  (∀ (K : Kt LT) (k : Nat) (L : xL) (st : List Value) (S : LT), nx (cod_L_areAlike N xs) cut_L_areAlike K (k + 1) 183 L st S = (O_int 0 1) (nx (cod_L_areAlike N xs) cut_L_areAlike K k) 183 L st S) ∧
  (∀ (K : Kt LT) (k : Nat) (L : xL) (st : List Value) (S : LT), nx (cod_L_areAlike N xs) cut_L_areAlike K (k + 1) 184 L st S = (O_callV 2 0 (fun S : LT => S.1) (fun S F => (F, S.2)) (spG yX6_eventAt cX6_eventAt 5 (some .int) 3 fpW)) (nx (cod_L_areAlike N xs) cut_L_areAlike K k) 184 L st S) ∧
  (∀ (K : Kt LT) (k : Nat) (L : xL) (st : List Value) (S : LT), nx (cod_L_areAlike N xs) cut_L_areAlike K (k + 1) 187 L st S = (O_aload 1 1) (nx (cod_L_areAlike N xs) cut_L_areAlike K k) 187 L st S) ∧
  (∀ (K : Kt LT) (k : Nat) (L : xL) (st : List Value) (S : LT), nx (cod_L_areAlike N xs) cut_L_areAlike K (k + 1) 188 L st S = (O_iload 3 1) (nx (cod_L_areAlike N xs) cut_L_areAlike K k) 188 L st S) ∧
  (∀ (K : Kt LT) (k : Nat) (L : xL) (st : List Value) (S : LT), nx (cod_L_areAlike N xs) cut_L_areAlike K (k + 1) 189 L st S = (O_int 0 1) (nx (cod_L_areAlike N xs) cut_L_areAlike K k) 189 L st S) ∧
  (∀ (K : Kt LT) (k : Nat) (L : xL) (st : List Value) (S : LT), nx (cod_L_areAlike N xs) cut_L_areAlike K (k + 1) 190 L st S = (O_callV 2 148 (fun S : LT => S.2) (fun S G => (S.1, G)) (spG yX6_eventAt cX6_eventAt 5 (some .int) 3 fpW)) (nx (cod_L_areAlike N xs) cut_L_areAlike K k) 190 L st S) ∧
  (∀ (K : Kt LT) (k : Nat) (L : xL) (st : List Value) (S : LT), nx (cod_L_areAlike N xs) cut_L_areAlike K (k + 1) 193 L st S = (O_icmp_ne 230) (nx (cod_L_areAlike N xs) cut_L_areAlike K k) 193 L st S) ∧
  (∀ (K : Kt LT) (k : Nat) (L : xL) (st : List Value) (S : LT), nx (cod_L_areAlike N xs) cut_L_areAlike K (k + 1) 196 L st S = (O_aload 0 1) (nx (cod_L_areAlike N xs) cut_L_areAlike K k) 196 L st S) ∧
  (∀ (K : Kt LT) (k : Nat) (L : xL) (st : List Value) (S : LT), nx (cod_L_areAlike N xs) cut_L_areAlike K (k + 1) 197 L st S = (O_iload 3 1) (nx (cod_L_areAlike N xs) cut_L_areAlike K k) 197 L st S) ∧
  (∀ (K : Kt LT) (k : Nat) (L : xL) (st : List Value) (S : LT), nx (cod_L_areAlike N xs) cut_L_areAlike K (k + 1) 198 L st S = (O_int 1 1) (nx (cod_L_areAlike N xs) cut_L_areAlike K k) 198 L st S) ∧
  (∀ (K : Kt LT) (k : Nat) (L : xL) (st : List Value) (S : LT), nx (cod_L_areAlike N xs) cut_L_areAlike K (k + 1) 199 L st S = (O_callV 2 0 (fun S : LT => S.1) (fun S F => (F, S.2)) (spG yX6_eventAt cX6_eventAt 5 (some .int) 3 fpW)) (nx (cod_L_areAlike N xs) cut_L_areAlike K k) 199 L st S) ∧
  (∀ (K : Kt LT) (k : Nat) (L : xL) (st : List Value) (S : LT), nx (cod_L_areAlike N xs) cut_L_areAlike K (k + 1) 202 L st S = (O_aload 1 1) (nx (cod_L_areAlike N xs) cut_L_areAlike K k) 202 L st S) ∧
  (∀ (K : Kt LT) (k : Nat) (L : xL) (st : List Value) (S : LT), nx (cod_L_areAlike N xs) cut_L_areAlike K (k + 1) 203 L st S = (O_iload 3 1) (nx (cod_L_areAlike N xs) cut_L_areAlike K k) 203 L st S) ∧
  (∀ (K : Kt LT) (k : Nat) (L : xL) (st : List Value) (S : LT), nx (cod_L_areAlike N xs) cut_L_areAlike K (k + 1) 204 L st S = (O_int 1 1) (nx (cod_L_areAlike N xs) cut_L_areAlike K k) 204 L st S) ∧
  (∀ (K : Kt LT) (k : Nat) (L : xL) (st : List Value) (S : LT), nx (cod_L_areAlike N xs) cut_L_areAlike K (k + 1) 205 L st S = (O_callV 2 148 (fun S : LT => S.2) (fun S G => (S.1, G)) (spG yX6_eventAt cX6_eventAt 5 (some .int) 3 fpW)) (nx (cod_L_areAlike N xs) cut_L_areAlike K k) 205 L st S) ∧
  (∀ (K : Kt LT) (k : Nat) (L : xL) (st : List Value) (S : LT), nx (cod_L_areAlike N xs) cut_L_areAlike K (k + 1) 208 L st S = (O_icmp_ne 230) (nx (cod_L_areAlike N xs) cut_L_areAlike K k) 208 L st S) ∧
  (∀ (K : Kt LT) (k : Nat) (L : xL) (st : List Value) (S : LT), nx (cod_L_areAlike N xs) cut_L_areAlike K (k + 1) 211 L st S = (O_aload 0 1) (nx (cod_L_areAlike N xs) cut_L_areAlike K k) 211 L st S) ∧
  (∀ (K : Kt LT) (k : Nat) (L : xL) (st : List Value) (S : LT), nx (cod_L_areAlike N xs) cut_L_areAlike K (k + 1) 212 L st S = (O_iload 3 1) (nx (cod_L_areAlike N xs) cut_L_areAlike K k) 212 L st S) ∧
  (∀ (K : Kt LT) (k : Nat) (L : xL) (st : List Value) (S : LT), nx (cod_L_areAlike N xs) cut_L_areAlike K (k + 1) 213 L st S = (O_int 2 1) (nx (cod_L_areAlike N xs) cut_L_areAlike K k) 213 L st S) ∧
  (∀ (K : Kt LT) (k : Nat) (L : xL) (st : List Value) (S : LT), nx (cod_L_areAlike N xs) cut_L_areAlike K (k + 1) 214 L st S = (O_callV 2 0 (fun S : LT => S.1) (fun S F => (F, S.2)) (spG yX6_eventAt cX6_eventAt 5 (some .int) 3 fpW)) (nx (cod_L_areAlike N xs) cut_L_areAlike K k) 214 L st S) ∧
  (∀ (K : Kt LT) (k : Nat) (L : xL) (st : List Value) (S : LT), nx (cod_L_areAlike N xs) cut_L_areAlike K (k + 1) 217 L st S = (O_aload 1 1) (nx (cod_L_areAlike N xs) cut_L_areAlike K k) 217 L st S) ∧
  (∀ (K : Kt LT) (k : Nat) (L : xL) (st : List Value) (S : LT), nx (cod_L_areAlike N xs) cut_L_areAlike K (k + 1) 218 L st S = (O_iload 3 1) (nx (cod_L_areAlike N xs) cut_L_areAlike K k) 218 L st S) ∧
  (∀ (K : Kt LT) (k : Nat) (L : xL) (st : List Value) (S : LT), nx (cod_L_areAlike N xs) cut_L_areAlike K (k + 1) 219 L st S = (O_int 2 1) (nx (cod_L_areAlike N xs) cut_L_areAlike K k) 219 L st S) ∧
  (∀ (K : Kt LT) (k : Nat) (L : xL) (st : List Value) (S : LT), nx (cod_L_areAlike N xs) cut_L_areAlike K (k + 1) 220 L st S = (O_callV 2 148 (fun S : LT => S.2) (fun S G => (S.1, G)) (spG yX6_eventAt cX6_eventAt 5 (some .int) 3 fpW)) (nx (cod_L_areAlike N xs) cut_L_areAlike K k) 220 L st S) ∧
  (∀ (K : Kt LT) (k : Nat) (L : xL) (st : List Value) (S : LT), nx (cod_L_areAlike N xs) cut_L_areAlike K (k + 1) 223 L st S = (O_icmp_ne 230) (nx (cod_L_areAlike N xs) cut_L_areAlike K k) 223 L st S) ∧
  (∀ (K : Kt LT) (k : Nat) (L : xL) (st : List Value) (S : LT), nx (cod_L_areAlike N xs) cut_L_areAlike K (k + 1) 226 L st S = (O_int 1 1) (nx (cod_L_areAlike N xs) cut_L_areAlike K k) 226 L st S) ∧
  (∀ (K : Kt LT) (k : Nat) (L : xL) (st : List Value) (S : LT), nx (cod_L_areAlike N xs) cut_L_areAlike K (k + 1) 227 L st S = (O_goto 231) (nx (cod_L_areAlike N xs) cut_L_areAlike K k) 227 L st S) ∧
  (∀ (K : Kt LT) (k : Nat) (L : xL) (st : List Value) (S : LT), nx (cod_L_areAlike N xs) cut_L_areAlike K (k + 1) 230 L st S = (O_int 0 1) (nx (cod_L_areAlike N xs) cut_L_areAlike K k) 230 L st S) ∧
  (∀ (K : Kt LT) (k : Nat) (L : xL) (st : List Value) (S : LT), nx (cod_L_areAlike N xs) cut_L_areAlike K (k + 1) 231 L st S = (O_istore 2 1) (nx (cod_L_areAlike N xs) cut_L_areAlike K k) 231 L st S) ∧
  (∀ (K : Kt LT) (k : Nat) (L : xL) (st : List Value) (S : LT), nx (cod_L_areAlike N xs) cut_L_areAlike K (k + 1) 232 L st S = (O_iinc 3 1) (nx (cod_L_areAlike N xs) cut_L_areAlike K k) 232 L st S) ∧
  (∀ (K : Kt LT) (k : Nat) (L : xL) (st : List Value) (S : LT), nx (cod_L_areAlike N xs) cut_L_areAlike K (k + 1) 235 L st S = (O_goto 167) (nx (cod_L_areAlike N xs) cut_L_areAlike K k) 235 L st S) ∧
  (∀ (K : Kt LT) (k : Nat) (L : xL) (st : List Value) (S : LT), nx (cod_L_areAlike N xs) cut_L_areAlike K (k + 1) 238 L st S = (O_iload 2 1) (nx (cod_L_areAlike N xs) cut_L_areAlike K k) 238 L st S) ∧
  (∀ (K : Kt LT) (k : Nat) (L : xL) (st : List Value) (S : LT), nx (cod_L_areAlike N xs) cut_L_areAlike K (k + 1) 239 L st S = (O_zret) (nx (cod_L_areAlike N xs) cut_L_areAlike K k) 239 L st S) ∧
  (∀ (K : Kt LT) (k : Nat) (L : xL) (st : List Value) (S : LT), nx (cod_L_areAlike N xs) cut_L_areAlike K (k + 1) 100000 L st S = K 100000 L st S) := by
  repeat' apply And.intro
  all_goals (intros; rfl)
set_option maxRecDepth 100000 in
theorem mk_L_areAlike {N : Nat} {xs : Nat → Int32} {P P' : LT} {r : Option Value}  (body : ∀ E : En, CodOk E lW (cod_L_areAlike N xs) → Gd E lW 100000 [] r.toList P' → Gd E lW 0 [some (.ref 0), some (.ref 148), none, none, none] [] P) : ConT N xs yL_areAlike cL_areAlike 5 (some .boolean) 6 lW [.ref 0, .ref 148] P r P' :=
  ConT.of (by decide) ((lW_len P').trans (lW_len P).symm) rfl (Nat.le_of_ble_eq_true rfl) (fun E F G Z hr => body E (okc_L_areAlike F G Z) hr)
theorem lt_n {n : Nat} (hn : n < 1000) : ∀ i : Nat, i < 1000 → ((nI i < nI n) = (i < n)) := fun i hi => propext (nI_ltI (by omega) (by omega))
section
variable {E : En} {N : Nat} {xs : Nat → Int32} {k : Nat} {F G : FT}
theorem aa_events (C : CodOk E lW (cod_L_areAlike N xs)) (h : Tw k F G) (l4 : Option Value) (hr : Gd E lW 100000 [] [.int 1] (F, G)) : Gd E lW 167 [some (.ref 0), some (.ref 148), some (.int 1), some (.int (nI 0)), l4] [] (F, G) := by
  obtain ⟨n, hn, hc⟩ := tw_count6 h
  have key : ∀ f i : Nat, i + f = n → Gd E lW 167 [some (.ref 0), some (.ref 148), some (.int 1), some (.int (nI i)), l4] [] (F, G) := by
    intro f
    induction f with
    | zero =>
      intro i hi
      have hx : ¬ nI i < nI n := by rw [lt_n (by omega) i (by omega)]; omega
      (refine nx1_ok C cut_L_areAlike 1000 ?_; simp only [w_L_areAlike, ops_eq, xst_eq, call_eq, oK_eq, Option.toList_some, Option.toList_none, List.cons_append, List.nil_append, List.length_cons, List.length_nil, true_and, and_true, Nat.reduceAdd, O_g_eq, O_s_eq, O_t_eq, O_z2, spG_eq, se_L_up, l_eq, z_eq, false_implies, true_implies, implies_true, not_true_eq_false, not_false_eq_true, Nat.reduceLeDiff, Nat.zero_le])
      exact ⟨nI n, F, hc, fun _ => hr, fun z => absurd z hx⟩
    | succ f ih =>
      intro i hi
      have hx : nI i < nI n := by rw [lt_n (by omega) i (by omega)]; omega
      have hk := ih (i + 1) (by omega)
      obtain ⟨r0, a0, b0⟩ := tw_eventAt h (nI i) 0
      obtain ⟨r1, a1, b1⟩ := tw_eventAt h (nI i) 1
      obtain ⟨r2, a2, b2⟩ := tw_eventAt h (nI i) 2
      (refine nx1_ok C cut_L_areAlike 1000 ?_; simp only [w_L_areAlike, ops_eq, xst_eq, call_eq, oK_eq, Option.toList_some, Option.toList_none, List.cons_append, List.nil_append, List.length_cons, List.length_nil, true_and, and_true, Nat.reduceAdd, O_g_eq, O_s_eq, O_t_eq, O_z2, spG_eq, se_L_up, l_eq, z_eq, false_implies, true_implies, implies_true, not_true_eq_false, not_false_eq_true, Nat.reduceLeDiff, Nat.zero_le, nI_1])
      exact ⟨nI n, F, hc, fun z => absurd hx z, fun _ => ⟨r0, F, a0, r0, G, b0, fun z => absurd rfl z, fun _ => ⟨r1, F, a1, r1, G, b1, fun z => absurd rfl z, fun _ => ⟨r2, F, a2, r2, G, b2, fun z => absurd rfl z, fun _ => hk⟩⟩⟩⟩
  exact key n 0 (by omega)
theorem aa_pump (C : CodOk E lW (cod_L_areAlike N xs)) (h : Tw k F G) {j : Nat} (hj : j < 3) (l4 : Option Value) (kk : Gd E lW 86 [some (.ref 0), some (.ref 148), some (.int 1), some (.int (nI (j + 1))), some (.int (nI 10))] [] (F, G)) : Gd E lW 94 [some (.ref 0), some (.ref 148), some (.int 1), some (.int (nI j)), some (.int (nI 0))] [] (F, G) := by
  have key : ∀ f i : Nat, i + f = 10 → Gd E lW 94 [some (.ref 0), some (.ref 148), some (.int 1), some (.int (nI j)), some (.int (nI i))] [] (F, G) := by
    intro f
    induction f with
    | zero =>
      intro i hi
      have e : i = 10 := by omega
      subst e
      have hx : ¬ nI 10 < (10 : Int32) := by decide
      (refine nx1_ok C cut_L_areAlike 1000 ?_; simp only [w_L_areAlike, ops_eq, xst_eq, call_eq, oK_eq, Option.toList_some, Option.toList_none, List.cons_append, List.nil_append, List.length_cons, List.length_nil, true_and, and_true, Nat.reduceAdd, O_g_eq, O_s_eq, O_t_eq, O_z2, spG_eq, se_L_up, l_eq, z_eq, false_implies, true_implies, implies_true, not_true_eq_false, not_false_eq_true, Nat.reduceLeDiff, Nat.zero_le, hx, nI_1])
      exact kk
    | succ f ih =>
      intro i hi
      have hx : nI i < (10 : Int32) := by
        rw [show (10 : Int32) = nI 10 from rfl, lt_n (by omega) i (by omega)]
        omega
      have hk := ih (i + 1) (by omega)
      have h147 : Gd E lW 147 [some (.ref 0), some (.ref 148), some (.int 1), some (.int (nI j)), some (.int (nI i))] [] (F, G) := by
        (refine nx1_ok C cut_L_areAlike 1000 ?_; simp only [w_L_areAlike, ops_eq, xst_eq, call_eq, oK_eq, Option.toList_some, Option.toList_none, List.cons_append, List.nil_append, List.length_cons, List.length_nil, true_and, and_true, Nat.reduceAdd, O_g_eq, O_s_eq, O_t_eq, O_z2, spG_eq, se_L_up, l_eq, z_eq, false_implies, true_implies, implies_true, not_true_eq_false, not_false_eq_true, Nat.reduceLeDiff, Nat.zero_le, nI_1])
        exact hk
      obtain ⟨r0, a0, b0⟩ := tw_pumpOf h (nI j) (nI i)
      obtain ⟨r1, a1, b1⟩ := tw_zoneOf h hj (nI i)
      (refine nx1_ok C cut_L_areAlike 1000 ?_; simp only [w_L_areAlike, ops_eq, xst_eq, call_eq, oK_eq, Option.toList_some, Option.toList_none, List.cons_append, List.nil_append, List.length_cons, List.length_nil, true_and, and_true, Nat.reduceAdd, O_g_eq, O_s_eq, O_t_eq, O_z2, spG_eq, se_L_up, l_eq, z_eq, false_implies, true_implies, implies_true, not_true_eq_false, not_false_eq_true, Nat.reduceLeDiff, Nat.zero_le, hx])
      exact ⟨r0, F, a0, r0, G, b0, fun z => absurd rfl z, fun _ => ⟨fun _ => h147, fun _ => ⟨r1, F, a1, r1, G, b1, fun z => absurd rfl z, fun _ => h147⟩⟩⟩
  exact key 10 0 (by omega)
theorem aa_pumps (C : CodOk E lW (cod_L_areAlike N xs)) (h : Tw k F G) (hr : Gd E lW 100000 [] [.int 1] (F, G)) (l4 : Option Value) : Gd E lW 86 [some (.ref 0), some (.ref 148), some (.int 1), some (.int (nI 0)), l4] [] (F, G) := by
  have key : ∀ f i : Nat, i + f = 3 → ∀ l4 : Option Value, Gd E lW 86 [some (.ref 0), some (.ref 148), some (.int 1), some (.int (nI i)), l4] [] (F, G) := by
    intro f
    induction f with
    | zero =>
      intro i hi l4
      have e : i = 3 := by omega
      subst e
      have hx : ¬ nI 3 < (3 : Int32) := by decide
      have he := aa_events C h l4 hr
      rw [nI_0] at he
      (refine nx1_ok C cut_L_areAlike 1000 ?_; simp only [w_L_areAlike, ops_eq, xst_eq, call_eq, oK_eq, Option.toList_some, Option.toList_none, List.cons_append, List.nil_append, List.length_cons, List.length_nil, true_and, and_true, Nat.reduceAdd, O_g_eq, O_s_eq, O_t_eq, O_z2, spG_eq, se_L_up, l_eq, z_eq, false_implies, true_implies, implies_true, not_true_eq_false, not_false_eq_true, Nat.reduceLeDiff, Nat.zero_le, hx])
      exact he
    | succ f ih =>
      intro i hi l4
      have hx : nI i < (3 : Int32) := by
        rw [show (3 : Int32) = nI 3 from rfl, lt_n (by omega) i (by omega)]
        omega
      have hk := aa_pump C h (j := i) (by omega) l4 (ih (i + 1) (by omega) _)
      rw [nI_0] at hk
      (refine nx1_ok C cut_L_areAlike 1000 ?_; simp only [w_L_areAlike, ops_eq, xst_eq, call_eq, oK_eq, Option.toList_some, Option.toList_none, List.cons_append, List.nil_append, List.length_cons, List.length_nil, true_and, and_true, Nat.reduceAdd, O_g_eq, O_s_eq, O_t_eq, O_z2, spG_eq, se_L_up, l_eq, z_eq, false_implies, true_implies, implies_true, not_true_eq_false, not_false_eq_true, Nat.reduceLeDiff, Nat.zero_le, hx])
      exact hk
  exact key 3 0 (by omega) l4
theorem aa_station (C : CodOk E lW (cod_L_areAlike N xs)) (h : Tw k F G) (hr : Gd E lW 100000 [] [.int 1] (F, G)) : Gd E lW 49 [some (.ref 0), some (.ref 148), some (.int 1), some (.int (nI 0)), none] [] (F, G) := by
  have key : ∀ f i : Nat, i + f = 15 → Gd E lW 49 [some (.ref 0), some (.ref 148), some (.int 1), some (.int (nI i)), none] [] (F, G) := by
    intro f
    induction f with
    | zero =>
      intro i hi
      have e : i = 15 := by omega
      subst e
      have hx : ¬ nI 15 < (15 : Int32) := by decide
      have he := aa_pumps C h hr none
      rw [nI_0] at he
      (refine nx1_ok C cut_L_areAlike 1000 ?_; simp only [w_L_areAlike, ops_eq, xst_eq, call_eq, oK_eq, Option.toList_some, Option.toList_none, List.cons_append, List.nil_append, List.length_cons, List.length_nil, true_and, and_true, Nat.reduceAdd, O_g_eq, O_s_eq, O_t_eq, O_z2, spG_eq, se_L_up, l_eq, z_eq, false_implies, true_implies, implies_true, not_true_eq_false, not_false_eq_true, Nat.reduceLeDiff, Nat.zero_le, hx])
      exact he
    | succ f ih =>
      intro i hi
      have hx : nI i < (15 : Int32) := by
        rw [show (15 : Int32) = nI 15 from rfl, lt_n (by omega) i (by omega)]
        omega
      have hk := ih (i + 1) (by omega)
      obtain ⟨r0, a0, b0⟩ := tw_station h (nI i)
      (refine nx1_ok C cut_L_areAlike 1000 ?_; simp only [w_L_areAlike, ops_eq, xst_eq, call_eq, oK_eq, Option.toList_some, Option.toList_none, List.cons_append, List.nil_append, List.length_cons, List.length_nil, true_and, and_true, Nat.reduceAdd, O_g_eq, O_s_eq, O_t_eq, O_z2, spG_eq, se_L_up, l_eq, z_eq, false_implies, true_implies, implies_true, not_true_eq_false, not_false_eq_true, Nat.reduceLeDiff, Nat.zero_le, hx, nI_1])
      exact ⟨r0, F, a0, r0, G, b0, fun z => absurd rfl z, fun _ => hk⟩
  exact key 15 0 (by omega)
end
theorem con_L_areAlike {N : Nat} {xs : Nat → Int32} {k : Nat} {F G : FT} (h : Tw k F G) : ∃ F' G' : FT, Tw k F' G' ∧ ConT N xs yL_areAlike cL_areAlike 5 (some .boolean) 6 lW [.ref 0, .ref 148] (F, G) (some (.int 1)) (F', G') := by
  obtain ⟨r1, a1, b1⟩ := tw_balance h
  obtain ⟨r2, F', G', a2, b2, h'⟩ := tw_foresee h 30
  obtain ⟨r3, a3, b3⟩ := tw_readyAt h' 0
  refine ⟨F', G', h', mk_L_areAlike (fun E C hr => ?_)⟩
  simp only [Option.toList_some] at hr
  have hk := aa_station C h' hr
  rw [nI_0] at hk
  (refine nx_ok C (cuts := cut_L_areAlike) 1000 _ _ _ _ ?_; simp only [w_L_areAlike, ops_eq, xst_eq, call_eq, oK_eq, Option.toList_some, Option.toList_none, List.cons_append, List.nil_append, List.length_cons, List.length_nil, true_and, and_true, Nat.reduceAdd, O_g_eq, O_s_eq, O_t_eq, O_z2, spG_eq, se_L_up, l_eq, z_eq, false_implies, true_implies, implies_true, not_true_eq_false, not_false_eq_true, Nat.reduceLeDiff, Nat.zero_le])
  exact ⟨r1, F, a1, r1, G, b1, fun z => absurd rfl z, fun _ => ⟨r2, F', a2, r2, G', b2, fun z => absurd rfl z, fun _ => ⟨r3, F', a3, r3, G', b3, fun z => absurd rfl z, fun _ => hk⟩⟩⟩
