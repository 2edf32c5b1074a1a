/-! ===== the law's isSound ===== -/
def cod_L_isSound (N : Nat) (xs : Nat → Int32) : List (Nat × Op LT) := [(0, O_int 0 1), (1, O_istore 1 1), (2, O_int 0 1), (3, O_istore 2 1), (4, O_aload 0 1), (5, O_int 4 1), (6, O_callV 1 0 (fun S : LT => S.1) (fun S F => (F, S.2)) (spG yX6_station cX6_station 2 (some .int) 3 fpW)), (9, O_istore 3 1), (10, O_aload 0 1), (11, O_int 0 1), (12, O_callV 1 0 (fun S : LT => S.1) (fun S F => (F, S.2)) (spG yX6_station cX6_station 2 (some .int) 3 fpW)), (15, O_if_lt 77), (18, O_aload 0 1), (19, O_int 0 1), (20, O_callV 1 0 (fun S : LT => S.1) (fun S F => (F, S.2)) (spG yX6_station cX6_station 2 (some .int) 3 fpW)), (23, O_int 2000 3), (26, O_icmp_gt 77), (29, O_aload 0 1), (30, O_int 1 1), (31, O_callV 1 0 (fun S : LT => S.1) (fun S F => (F, S.2)) (spG yX6_station cX6_station 2 (some .int) 3 fpW)), (34, O_if_lt 77), (37, O_aload 0 1), (38, O_int 1 1), (39, O_callV 1 0 (fun S : LT => S.1) (fun S F => (F, S.2)) (spG yX6_station cX6_station 2 (some .int) 3 fpW)), (42, O_int 20000 3), (45, O_icmp_gt 77), (48, O_iload 3 1), (49, O_if_lt 73), (52, O_aload 0 1), (53, O_iload 3 1), (54, O_int 0 1), (55, O_callV 2 0 (fun S : LT => S.1) (fun S F => (F, S.2)) (spG yX6_pumpOf cX6_pumpOf 4 (some .int) 2 fpW)), (58, O_if_le 77), (61, O_aload 0 1), (62, O_iload 3 1), (63, O_int 4 1), (64, O_callV 2 0 (fun S : LT => S.1) (fun S F => (F, S.2)) (spG yX6_pumpOf cX6_pumpOf 4 (some .int) 2 fpW)), (67, O_int 300 3), (70, O_icmp_lt 77), (73, O_int 1 1), (74, O_goto 78), (77, O_int 0 1), (78, O_istore 4 2), (80, O_int 0 1), (81, O_istore 5 2), (83, O_iload 5 2), (85, O_int 3 1), (86, O_icmp_ge 228), (89, O_aload 0 1), (90, O_iload 5 2), (92, O_int 4 1), (93, O_callV 2 0 (fun S : LT => S.1) (fun S F => (F, S.2)) (spG yX6_pumpOf cX6_pumpOf 4 (some .int) 2 fpW)), (96, O_istore 6 2), (98, O_iload 1 1), (99, O_iload 6 2), (101, O_if_le 108), (104, O_int 1 1), (105, O_goto 109), (108, O_int 0 1), (109, O_iadd), (110, O_istore 1 1), (111, O_iload 2 1), (112, O_iload 6 2), (114, O_if_ne 132), (117, O_aload 0 1), (118, O_iload 5 2), (120, O_int 3 1), (121, O_callV 2 0 (fun S : LT => S.1) (fun S F => (F, S.2)) (spG yX6_pumpOf cX6_pumpOf 4 (some .int) 2 fpW)), (124, O_int 1 1), (125, O_icmp_ne 132), (128, O_int 1 1), (129, O_goto 133), (132, O_int 0 1), (133, O_iadd), (134, O_istore 2 1), (135, O_iload 4 2), (137, O_if_eq 219), (140, O_iload 6 2), (142, O_if_eq 156), (145, O_aload 0 1), (146, O_iload 5 2), (148, O_int 3 1), (149, O_callV 2 0 (fun S : LT => S.1) (fun S F => (F, S.2)) (spG yX6_pumpOf cX6_pumpOf 4 (some .int) 2 fpW)), (152, O_int 1 1), (153, O_icmp_ne 219), (156, O_iload 6 2), (158, O_if_eq 175), (161, O_iload 6 2), (163, O_int 1000 3), (166, O_icmp_eq 175), (169, O_iload 5 2), (171, O_iload 3 1), (172, O_icmp_ne 219), (175, O_aload 0 1), (176, O_iload 5 2), (178, O_int 5 1), (179, O_callV 2 0 (fun S : LT => S.1) (fun S F => (F, S.2)) (spG yX6_pumpOf cX6_pumpOf 4 (some .int) 2 fpW)), (182, O_iload 5 2), (184, O_iload 3 1), (185, O_icmp_ne 192), (188, O_int 1 1), (189, O_goto 193), (192, O_int 0 1), (193, O_icmp_ne 219), (196, O_aload 0 1), (197, O_iload 5 2), (199, O_int 7 2), (201, O_callV 2 0 (fun S : LT => S.1) (fun S F => (F, S.2)) (spG yX6_pumpOf cX6_pumpOf 4 (some .int) 2 fpW)), (204, O_aload 0 1), (205, O_iload 5 2), (207, O_int 6 2), (209, O_callV 2 0 (fun S : LT => S.1) (fun S F => (F, S.2)) (spG yX6_pumpOf cX6_pumpOf 4 (some .int) 2 fpW)), (212, O_icmp_gt 219), (215, O_int 1 1), (216, O_goto 220), (219, O_int 0 1), (220, O_istore 4 2), (222, O_iinc 5 1), (225, O_goto 83), (228, O_iload 4 2), (230, O_if_eq 296), (233, O_aload 0 1), (234, O_int 5 1), (235, O_callV 1 0 (fun S : LT => S.1) (fun S F => (F, S.2)) (spG yX6_station cX6_station 2 (some .int) 3 fpW)), (238, O_iload 1 1), (239, O_icmp_ne 296), (242, O_aload 0 1), (243, O_int 4 1), (244, O_callV 1 0 (fun S : LT => S.1) (fun S F => (F, S.2)) (spG yX6_count cX6_count 2 (some .int) 2 fpW)), (247, O_iload 2 1), (248, O_icmp_ne 296), (251, O_aload 0 1), (252, O_int 6 2), (254, O_callV 1 0 (fun S : LT => S.1) (fun S F => (F, S.2)) (spG yX6_station cX6_station 2 (some .int) 3 fpW)), (257, O_if_eq 264), (260, O_iload 1 1), (261, O_if_ne 296), (264, O_aload 0 1), (265, O_int 0 1), (266, O_int 2 1), (267, O_callV 2 0 (fun S : LT => S.1) (fun S F => (F, S.2)) (spG yX6_zoneOf cX6_zoneOf 4 (some .int) 1 fpW)), (270, O_aload 0 1), (271, O_int 1 1), (272, O_int 2 1), (273, O_callV 2 0 (fun S : LT => S.1) (fun S F => (F, S.2)) (spG yX6_zoneOf cX6_zoneOf 4 (some .int) 1 fpW)), (276, O_iadd), (277, O_aload 0 1), (278, O_int 2 1), (279, O_int 2 1), (280, O_callV 2 0 (fun S : LT => S.1) (fun S F => (F, S.2)) (spG yX6_zoneOf cX6_zoneOf 4 (some .int) 1 fpW)), (283, O_iadd), (284, O_aload 0 1), (285, O_int 3 1), (286, O_callV 1 0 (fun S : LT => S.1) (fun S F => (F, S.2)) (spG yX6_station cX6_station 2 (some .int) 3 fpW)), (289, O_icmp_gt 296), (292, O_int 1 1), (293, O_goto 297), (296, O_int 0 1), (297, O_zret)]
abbrev cut_L_isSound : List Nat := [73, 83, 98, 111, 135, 156, 175, 228, 264]
set_option maxRecDepth 100000 in
theorem okc_L_isSound {E : En} {N : Nat} {xs : Nat → Int32} (F : Fx E RL cL_isSound 7 4) (G : Fr E (some .boolean)) (Z : LZ N xs E) : CodOk E lW (cod_L_isSound N xs) := by
  unfold CodOk cod_L_isSound
  refine List.forall_mem_cons.mpr ⟨ok_iconst F dL_isSound_0 (by decide) (by decide), ?_⟩
  refine List.forall_mem_cons.mpr ⟨ok_istore_n F dL_isSound_1 rfl (by decide) (by decide), ?_⟩
  refine List.forall_mem_cons.mpr ⟨ok_iconst F dL_isSound_2 (by decide) (by decide), ?_⟩
  refine List.forall_mem_cons.mpr ⟨ok_istore_n F dL_isSound_3 rfl (by decide) (by decide), ?_⟩
  refine List.forall_mem_cons.mpr ⟨ok_aload_n F dL_isSound_4 rfl (by decide), ?_⟩
  refine List.forall_mem_cons.mpr ⟨ok_iconst F dL_isSound_5 (by decide) (by decide), ?_⟩
  refine List.forall_mem_cons.mpr ⟨ok_callV F (spG_ok yX6_station cX6_station 2 (some .int) 3 fpW) ln_lw_F rcv_fpW (by decide +kernel) (by decide) dL_isSound_6 (by decide), ?_⟩
  refine List.forall_mem_cons.mpr ⟨ok_istore_n F dL_isSound_9 rfl (by decide) (by decide), ?_⟩
  refine List.forall_mem_cons.mpr ⟨ok_aload_n F dL_isSound_10 rfl (by decide), ?_⟩
  refine List.forall_mem_cons.mpr ⟨ok_iconst F dL_isSound_11 (by decide) (by decide), ?_⟩
  refine List.forall_mem_cons.mpr ⟨ok_callV F (spG_ok yX6_station cX6_station 2 (some .int) 3 fpW) ln_lw_F rcv_fpW (by decide +kernel) (by decide) dL_isSound_12 (by decide), ?_⟩
  refine List.forall_mem_cons.mpr ⟨ok_if_lt F dL_isSound_15 (by decide) (by decide) (by decide), ?_⟩
  refine List.forall_mem_cons.mpr ⟨ok_aload_n F dL_isSound_18 rfl (by decide), ?_⟩
  refine List.forall_mem_cons.mpr ⟨ok_iconst F dL_isSound_19 (by decide) (by decide), ?_⟩
  refine List.forall_mem_cons.mpr ⟨ok_callV F (spG_ok yX6_station cX6_station 2 (some .int) 3 fpW) ln_lw_F rcv_fpW (by decide +kernel) (by decide) dL_isSound_20 (by decide), ?_⟩
  refine List.forall_mem_cons.mpr ⟨ok_sipush F dL_isSound_23 (by decide) (by decide), ?_⟩
  refine List.forall_mem_cons.mpr ⟨ok_icmp_gt F dL_isSound_26 (by decide) (by decide) (by decide), ?_⟩
  refine List.forall_mem_cons.mpr ⟨ok_aload_n F dL_isSound_29 rfl (by decide), ?_⟩
  refine List.forall_mem_cons.mpr ⟨ok_iconst F dL_isSound_30 (by decide) (by decide), ?_⟩
  refine List.forall_mem_cons.mpr ⟨ok_callV F (spG_ok yX6_station cX6_station 2 (some .int) 3 fpW) ln_lw_F rcv_fpW (by decide +kernel) (by decide) dL_isSound_31 (by decide), ?_⟩
  refine List.forall_mem_cons.mpr ⟨ok_if_lt F dL_isSound_34 (by decide) (by decide) (by decide), ?_⟩
  refine List.forall_mem_cons.mpr ⟨ok_aload_n F dL_isSound_37 rfl (by decide), ?_⟩
  refine List.forall_mem_cons.mpr ⟨ok_iconst F dL_isSound_38 (by decide) (by decide), ?_⟩
  refine List.forall_mem_cons.mpr ⟨ok_callV F (spG_ok yX6_station cX6_station 2 (some .int) 3 fpW) ln_lw_F rcv_fpW (by decide +kernel) (by decide) dL_isSound_39 (by decide), ?_⟩
  refine List.forall_mem_cons.mpr ⟨ok_sipush F dL_isSound_42 (by decide) (by decide), ?_⟩
  refine List.forall_mem_cons.mpr ⟨ok_icmp_gt F dL_isSound_45 (by decide) (by decide) (by decide), ?_⟩
  refine List.forall_mem_cons.mpr ⟨ok_iload_n F dL_isSound_48 rfl (by decide), ?_⟩
  refine List.forall_mem_cons.mpr ⟨ok_if_lt F dL_isSound_49 (by decide) (by decide) (by decide), ?_⟩
  refine List.forall_mem_cons.mpr ⟨ok_aload_n F dL_isSound_52 rfl (by decide), ?_⟩
  refine List.forall_mem_cons.mpr ⟨ok_iload_n F dL_isSound_53 rfl (by decide), ?_⟩
  refine List.forall_mem_cons.mpr ⟨ok_iconst F dL_isSound_54 (by decide) (by decide), ?_⟩
  refine List.forall_mem_cons.mpr ⟨ok_callV F (spG_ok yX6_pumpOf cX6_pumpOf 4 (some .int) 2 fpW) ln_lw_F rcv_fpW (by decide +kernel) (by decide) dL_isSound_55 (by decide), ?_⟩
  refine List.forall_mem_cons.mpr ⟨ok_if_le F dL_isSound_58 (by decide) (by decide) (by decide), ?_⟩
  refine List.forall_mem_cons.mpr ⟨ok_aload_n F dL_isSound_61 rfl (by decide), ?_⟩
  refine List.forall_mem_cons.mpr ⟨ok_iload_n F dL_isSound_62 rfl (by decide), ?_⟩
  refine List.forall_mem_cons.mpr ⟨ok_iconst F dL_isSound_63 (by decide) (by decide), ?_⟩
  refine List.forall_mem_cons.mpr ⟨ok_callV F (spG_ok yX6_pumpOf cX6_pumpOf 4 (some .int) 2 fpW) ln_lw_F rcv_fpW (by decide +kernel) (by decide) dL_isSound_64 (by decide), ?_⟩
  refine List.forall_mem_cons.mpr ⟨ok_sipush F dL_isSound_67 (by decide) (by decide), ?_⟩
  refine List.forall_mem_cons.mpr ⟨ok_icmp_lt F dL_isSound_70 (by decide) (by decide) (by decide), ?_⟩
  refine List.forall_mem_cons.mpr ⟨ok_iconst F dL_isSound_73 (by decide) (by decide), ?_⟩
  refine List.forall_mem_cons.mpr ⟨ok_goto F dL_isSound_74 (by decide) (by decide) (by decide), ?_⟩
  refine List.forall_mem_cons.mpr ⟨ok_iconst F dL_isSound_77 (by decide) (by decide), ?_⟩
  refine List.forall_mem_cons.mpr ⟨ok_istore F dL_isSound_78 (by decide) (by decide), ?_⟩
  refine List.forall_mem_cons.mpr ⟨ok_iconst F dL_isSound_80 (by decide) (by decide), ?_⟩
  refine List.forall_mem_cons.mpr ⟨ok_istore F dL_isSound_81 (by decide) (by decide), ?_⟩
  refine List.forall_mem_cons.mpr ⟨ok_iload F dL_isSound_83 (by decide), ?_⟩
  refine List.forall_mem_cons.mpr ⟨ok_iconst F dL_isSound_85 (by decide) (by decide), ?_⟩
  refine List.forall_mem_cons.mpr ⟨ok_icmp_ge F dL_isSound_86 (by decide) (by decide) (by decide), ?_⟩
  refine List.forall_mem_cons.mpr ⟨ok_aload_n F dL_isSound_89 rfl (by decide), ?_⟩
  refine List.forall_mem_cons.mpr ⟨ok_iload F dL_isSound_90 (by decide), ?_⟩
  refine List.forall_mem_cons.mpr ⟨ok_iconst F dL_isSound_92 (by decide) (by decide), ?_⟩
  refine List.forall_mem_cons.mpr ⟨ok_callV F (spG_ok yX6_pumpOf cX6_pumpOf 4 (some .int) 2 fpW) ln_lw_F rcv_fpW (by decide +kernel) (by decide) dL_isSound_93 (by decide), ?_⟩
  refine List.forall_mem_cons.mpr ⟨ok_istore F dL_isSound_96 (by decide) (by decide), ?_⟩
  refine List.forall_mem_cons.mpr ⟨ok_iload_n F dL_isSound_98 rfl (by decide), ?_⟩
  refine List.forall_mem_cons.mpr ⟨ok_iload F dL_isSound_99 (by decide), ?_⟩
  refine List.forall_mem_cons.mpr ⟨ok_if_le F dL_isSound_101 (by decide) (by decide) (by decide), ?_⟩
  refine List.forall_mem_cons.mpr ⟨ok_iconst F dL_isSound_104 (by decide) (by decide), ?_⟩
  refine List.forall_mem_cons.mpr ⟨ok_goto F dL_isSound_105 (by decide) (by decide) (by decide), ?_⟩
  refine List.forall_mem_cons.mpr ⟨ok_iconst F dL_isSound_108 (by decide) (by decide), ?_⟩
  refine List.forall_mem_cons.mpr ⟨ok_iadd F dL_isSound_109 (by decide), ?_⟩
  refine List.forall_mem_cons.mpr ⟨ok_istore_n F dL_isSound_110 rfl (by decide) (by decide), ?_⟩
  refine List.forall_mem_cons.mpr ⟨ok_iload_n F dL_isSound_111 rfl (by decide), ?_⟩
  refine List.forall_mem_cons.mpr ⟨ok_iload F dL_isSound_112 (by decide), ?_⟩
  refine List.forall_mem_cons.mpr ⟨ok_if_ne F dL_isSound_114 (by decide) (by decide) (by decide), ?_⟩
  refine List.forall_mem_cons.mpr ⟨ok_aload_n F dL_isSound_117 rfl (by decide), ?_⟩
  refine List.forall_mem_cons.mpr ⟨ok_iload F dL_isSound_118 (by decide), ?_⟩
  refine List.forall_mem_cons.mpr ⟨ok_iconst F dL_isSound_120 (by decide) (by decide), ?_⟩
  refine List.forall_mem_cons.mpr ⟨ok_callV F (spG_ok yX6_pumpOf cX6_pumpOf 4 (some .int) 2 fpW) ln_lw_F rcv_fpW (by decide +kernel) (by decide) dL_isSound_121 (by decide), ?_⟩
  refine List.forall_mem_cons.mpr ⟨ok_iconst F dL_isSound_124 (by decide) (by decide), ?_⟩
  refine List.forall_mem_cons.mpr ⟨ok_icmp_ne F dL_isSound_125 (by decide) (by decide) (by decide), ?_⟩
  refine List.forall_mem_cons.mpr ⟨ok_iconst F dL_isSound_128 (by decide) (by decide), ?_⟩
  refine List.forall_mem_cons.mpr ⟨ok_goto F dL_isSound_129 (by decide) (by decide) (by decide), ?_⟩
  refine List.forall_mem_cons.mpr ⟨ok_iconst F dL_isSound_132 (by decide) (by decide), ?_⟩
  refine List.forall_mem_cons.mpr ⟨ok_iadd F dL_isSound_133 (by decide), ?_⟩
  refine List.forall_mem_cons.mpr ⟨ok_istore_n F dL_isSound_134 rfl (by decide) (by decide), ?_⟩
  refine List.forall_mem_cons.mpr ⟨ok_iload F dL_isSound_135 (by decide), ?_⟩
  refine List.forall_mem_cons.mpr ⟨ok_if_eq F dL_isSound_137 (by decide) (by decide) (by decide), ?_⟩
  refine List.forall_mem_cons.mpr ⟨ok_iload F dL_isSound_140 (by decide), ?_⟩
  refine List.forall_mem_cons.mpr ⟨ok_if_eq F dL_isSound_142 (by decide) (by decide) (by decide), ?_⟩
  refine List.forall_mem_cons.mpr ⟨ok_aload_n F dL_isSound_145 rfl (by decide), ?_⟩
  refine List.forall_mem_cons.mpr ⟨ok_iload F dL_isSound_146 (by decide), ?_⟩
  refine List.forall_mem_cons.mpr ⟨ok_iconst F dL_isSound_148 (by decide) (by decide), ?_⟩
  refine List.forall_mem_cons.mpr ⟨ok_callV F (spG_ok yX6_pumpOf cX6_pumpOf 4 (some .int) 2 fpW) ln_lw_F rcv_fpW (by decide +kernel) (by decide) dL_isSound_149 (by decide), ?_⟩
  refine List.forall_mem_cons.mpr ⟨ok_iconst F dL_isSound_152 (by decide) (by decide), ?_⟩
  refine List.forall_mem_cons.mpr ⟨ok_icmp_ne F dL_isSound_153 (by decide) (by decide) (by decide), ?_⟩
  refine List.forall_mem_cons.mpr ⟨ok_iload F dL_isSound_156 (by decide), ?_⟩
  refine List.forall_mem_cons.mpr ⟨ok_if_eq F dL_isSound_158 (by decide) (by decide) (by decide), ?_⟩
  refine List.forall_mem_cons.mpr ⟨ok_iload F dL_isSound_161 (by decide), ?_⟩
  refine List.forall_mem_cons.mpr ⟨ok_sipush F dL_isSound_163 (by decide) (by decide), ?_⟩
  refine List.forall_mem_cons.mpr ⟨ok_icmp_eq F dL_isSound_166 (by decide) (by decide) (by decide), ?_⟩
  refine List.forall_mem_cons.mpr ⟨ok_iload F dL_isSound_169 (by decide), ?_⟩
  refine List.forall_mem_cons.mpr ⟨ok_iload_n F dL_isSound_171 rfl (by decide), ?_⟩
  refine List.forall_mem_cons.mpr ⟨ok_icmp_ne F dL_isSound_172 (by decide) (by decide) (by decide), ?_⟩
  refine List.forall_mem_cons.mpr ⟨ok_aload_n F dL_isSound_175 rfl (by decide), ?_⟩
  refine List.forall_mem_cons.mpr ⟨ok_iload F dL_isSound_176 (by decide), ?_⟩
  refine List.forall_mem_cons.mpr ⟨ok_iconst F dL_isSound_178 (by decide) (by decide), ?_⟩
  refine List.forall_mem_cons.mpr ⟨ok_callV F (spG_ok yX6_pumpOf cX6_pumpOf 4 (some .int) 2 fpW) ln_lw_F rcv_fpW (by decide +kernel) (by decide) dL_isSound_179 (by decide), ?_⟩
  refine List.forall_mem_cons.mpr ⟨ok_iload F dL_isSound_182 (by decide), ?_⟩
  refine List.forall_mem_cons.mpr ⟨ok_iload_n F dL_isSound_184 rfl (by decide), ?_⟩
  refine List.forall_mem_cons.mpr ⟨ok_icmp_ne F dL_isSound_185 (by decide) (by decide) (by decide), ?_⟩
  refine List.forall_mem_cons.mpr ⟨ok_iconst F dL_isSound_188 (by decide) (by decide), ?_⟩
  refine List.forall_mem_cons.mpr ⟨ok_goto F dL_isSound_189 (by decide) (by decide) (by decide), ?_⟩
  refine List.forall_mem_cons.mpr ⟨ok_iconst F dL_isSound_192 (by decide) (by decide), ?_⟩
  refine List.forall_mem_cons.mpr ⟨ok_icmp_ne F dL_isSound_193 (by decide) (by decide) (by decide), ?_⟩
  refine List.forall_mem_cons.mpr ⟨ok_aload_n F dL_isSound_196 rfl (by decide), ?_⟩
  refine List.forall_mem_cons.mpr ⟨ok_iload F dL_isSound_197 (by decide), ?_⟩
  refine List.forall_mem_cons.mpr ⟨ok_bipush F dL_isSound_199 (by decide) (by decide), ?_⟩
  refine List.forall_mem_cons.mpr ⟨ok_callV F (spG_ok yX6_pumpOf cX6_pumpOf 4 (some .int) 2 fpW) ln_lw_F rcv_fpW (by decide +kernel) (by decide) dL_isSound_201 (by decide), ?_⟩
  refine List.forall_mem_cons.mpr ⟨ok_aload_n F dL_isSound_204 rfl (by decide), ?_⟩
  refine List.forall_mem_cons.mpr ⟨ok_iload F dL_isSound_205 (by decide), ?_⟩
  refine List.forall_mem_cons.mpr ⟨ok_bipush F dL_isSound_207 (by decide) (by decide), ?_⟩
  refine List.forall_mem_cons.mpr ⟨ok_callV F (spG_ok yX6_pumpOf cX6_pumpOf 4 (some .int) 2 fpW) ln_lw_F rcv_fpW (by decide +kernel) (by decide) dL_isSound_209 (by decide), ?_⟩
  refine List.forall_mem_cons.mpr ⟨ok_icmp_gt F dL_isSound_212 (by decide) (by decide) (by decide), ?_⟩
  refine List.forall_mem_cons.mpr ⟨ok_iconst F dL_isSound_215 (by decide) (by decide), ?_⟩
  refine List.forall_mem_cons.mpr ⟨ok_goto F dL_isSound_216 (by decide) (by decide) (by decide), ?_⟩
  refine List.forall_mem_cons.mpr ⟨ok_iconst F dL_isSound_219 (by decide) (by decide), ?_⟩
  refine List.forall_mem_cons.mpr ⟨ok_istore F dL_isSound_220 (by decide) (by decide), ?_⟩
  refine List.forall_mem_cons.mpr ⟨ok_iinc F dL_isSound_222 (by decide) (by decide) (by decide), ?_⟩
  refine List.forall_mem_cons.mpr ⟨ok_goto F dL_isSound_225 (by decide) (by decide) (by decide), ?_⟩
  refine List.forall_mem_cons.mpr ⟨ok_iload F dL_isSound_228 (by decide), ?_⟩
  refine List.forall_mem_cons.mpr ⟨ok_if_eq F dL_isSound_230 (by decide) (by decide) (by decide), ?_⟩
  refine List.forall_mem_cons.mpr ⟨ok_aload_n F dL_isSound_233 rfl (by decide), ?_⟩
  refine List.forall_mem_cons.mpr ⟨ok_iconst F dL_isSound_234 (by decide) (by decide), ?_⟩
  refine List.forall_mem_cons.mpr ⟨ok_callV F (spG_ok yX6_station cX6_station 2 (some .int) 3 fpW) ln_lw_F rcv_fpW (by decide +kernel) (by decide) dL_isSound_235 (by decide), ?_⟩
  refine List.forall_mem_cons.mpr ⟨ok_iload_n F dL_isSound_238 rfl (by decide), ?_⟩
  refine List.forall_mem_cons.mpr ⟨ok_icmp_ne F dL_isSound_239 (by decide) (by decide) (by decide), ?_⟩
  refine List.forall_mem_cons.mpr ⟨ok_aload_n F dL_isSound_242 rfl (by decide), ?_⟩
  refine List.forall_mem_cons.mpr ⟨ok_iconst F dL_isSound_243 (by decide) (by decide), ?_⟩
  refine List.forall_mem_cons.mpr ⟨ok_callV F (spG_ok yX6_count cX6_count 2 (some .int) 2 fpW) ln_lw_F rcv_fpW (by decide +kernel) (by decide) dL_isSound_244 (by decide), ?_⟩
  refine List.forall_mem_cons.mpr ⟨ok_iload_n F dL_isSound_247 rfl (by decide), ?_⟩
  refine List.forall_mem_cons.mpr ⟨ok_icmp_ne F dL_isSound_248 (by decide) (by decide) (by decide), ?_⟩
  refine List.forall_mem_cons.mpr ⟨ok_aload_n F dL_isSound_251 rfl (by decide), ?_⟩
  refine List.forall_mem_cons.mpr ⟨ok_bipush F dL_isSound_252 (by decide) (by decide), ?_⟩
  refine List.forall_mem_cons.mpr ⟨ok_callV F (spG_ok yX6_station cX6_station 2 (some .int) 3 fpW) ln_lw_F rcv_fpW (by decide +kernel) (by decide) dL_isSound_254 (by decide), ?_⟩
  refine List.forall_mem_cons.mpr ⟨ok_if_eq F dL_isSound_257 (by decide) (by decide) (by decide), ?_⟩
  refine List.forall_mem_cons.mpr ⟨ok_iload_n F dL_isSound_260 rfl (by decide), ?_⟩
  refine List.forall_mem_cons.mpr ⟨ok_if_ne F dL_isSound_261 (by decide) (by decide) (by decide), ?_⟩
  refine List.forall_mem_cons.mpr ⟨ok_aload_n F dL_isSound_264 rfl (by decide), ?_⟩
  refine List.forall_mem_cons.mpr ⟨ok_iconst F dL_isSound_265 (by decide) (by decide), ?_⟩
  refine List.forall_mem_cons.mpr ⟨ok_iconst F dL_isSound_266 (by decide) (by decide), ?_⟩
  refine List.forall_mem_cons.mpr ⟨ok_callV F (spG_ok yX6_zoneOf cX6_zoneOf 4 (some .int) 1 fpW) ln_lw_F rcv_fpW (by decide +kernel) (by decide) dL_isSound_267 (by decide), ?_⟩
  refine List.forall_mem_cons.mpr ⟨ok_aload_n F dL_isSound_270 rfl (by decide), ?_⟩
  refine List.forall_mem_cons.mpr ⟨ok_iconst F dL_isSound_271 (by decide) (by decide), ?_⟩
  refine List.forall_mem_cons.mpr ⟨ok_iconst F dL_isSound_272 (by decide) (by decide), ?_⟩
  refine List.forall_mem_cons.mpr ⟨ok_callV F (spG_ok yX6_zoneOf cX6_zoneOf 4 (some .int) 1 fpW) ln_lw_F rcv_fpW (by decide +kernel) (by decide) dL_isSound_273 (by decide), ?_⟩
  refine List.forall_mem_cons.mpr ⟨ok_iadd F dL_isSound_276 (by decide), ?_⟩
  refine List.forall_mem_cons.mpr ⟨ok_aload_n F dL_isSound_277 rfl (by decide), ?_⟩
  refine List.forall_mem_cons.mpr ⟨ok_iconst F dL_isSound_278 (by decide) (by decide), ?_⟩
  refine List.forall_mem_cons.mpr ⟨ok_iconst F dL_isSound_279 (by decide) (by decide), ?_⟩
  refine List.forall_mem_cons.mpr ⟨ok_callV F (spG_ok yX6_zoneOf cX6_zoneOf 4 (some .int) 1 fpW) ln_lw_F rcv_fpW (by decide +kernel) (by decide) dL_isSound_280 (by decide), ?_⟩
  refine List.forall_mem_cons.mpr ⟨ok_iadd F dL_isSound_283 (by decide), ?_⟩
  refine List.forall_mem_cons.mpr ⟨ok_aload_n F dL_isSound_284 rfl (by decide), ?_⟩
  refine List.forall_mem_cons.mpr ⟨ok_iconst F dL_isSound_285 (by decide) (by decide), ?_⟩
  refine List.forall_mem_cons.mpr ⟨ok_callV F (spG_ok yX6_station cX6_station 2 (some .int) 3 fpW) ln_lw_F rcv_fpW (by decide +kernel) (by decide) dL_isSound_286 (by decide), ?_⟩
  refine List.forall_mem_cons.mpr ⟨ok_icmp_gt F dL_isSound_289 (by decide) (by decide) (by decide), ?_⟩
  refine List.forall_mem_cons.mpr ⟨ok_iconst F dL_isSound_292 (by decide) (by decide), ?_⟩
  refine List.forall_mem_cons.mpr ⟨ok_goto F dL_isSound_293 (by decide) (by decide) (by decide), ?_⟩
  refine List.forall_mem_cons.mpr ⟨ok_iconst F dL_isSound_296 (by decide) (by decide), ?_⟩
  refine List.forall_mem_cons.mpr ⟨ok_zret F G dL_isSound_297 (by decide), ?_⟩
  exact fun _ h => absurd h List.not_mem_nil
set_option maxRecDepth 100000 in
theorem w_L_isSound (N : Nat) (xs : Nat → Int32) : (∀ (K : Kt LT) (k : Nat) (L : xL) (st : List Value) (S : LT), nx (cod_L_isSound N xs) cut_L_isSound K (k + 1) 0 L st S = (O_int 0 1) (nx (cod_L_isSound N xs) cut_L_isSound K k) 0 L st S) ∧
  (∀ (K : Kt LT) (k : Nat) (L : xL) (st : List Value) (S : LT), nx (cod_L_isSound N xs) cut_L_isSound K (k + 1) 1 L st S = (O_istore 1 1) (nx (cod_L_isSound N xs) cut_L_isSound K k) 1 L st S) ∧
  (∀ (K : Kt LT) (k : Nat) (L : xL) (st : List Value) (S : LT), nx (cod_L_isSound N xs) cut_L_isSound K (k + 1) 2 L st S = (O_int 0 1) (nx (cod_L_isSound N xs) cut_L_isSound K k) 2 L st S) ∧
  (∀ (K : Kt LT) (k : Nat) (L : xL) (st : List Value) (S : LT), nx (cod_L_isSound N xs) cut_L_isSound K (k + 1) 3 L st S = (O_istore 2 1) (nx (cod_L_isSound N xs) cut_L_isSound K k) 3 L st S) ∧
  (∀ (K : Kt LT) (k : Nat) (L : xL) (st : List Value) (S : LT), nx (cod_L_isSound N xs) cut_L_isSound K (k + 1) 4 L st S = (O_aload 0 1) (nx (cod_L_isSound N xs) cut_L_isSound K k) 4 L st S) ∧
  (∀ (K : Kt LT) (k : Nat) (L : xL) (st : List Value) (S : LT), nx (cod_L_isSound N xs) cut_L_isSound K (k + 1) 5 L st S = (O_int 4 1) (nx (cod_L_isSound N xs) cut_L_isSound K k) 5 L st S) ∧
  (∀ (K : Kt LT) (k : Nat) (L : xL) (st : List Value) (S : LT), nx (cod_L_isSound N xs) cut_L_isSound K (k + 1) 6 L st S = (O_callV 1 0 (fun S : LT => S.1) (fun S F => (F, S.2)) (spG yX6_station cX6_station 2 (some .int) 3 fpW)) (nx (cod_L_isSound N xs) cut_L_isSound K k) 6 L st S) ∧
  (∀ (K : Kt LT) (k : Nat) (L : xL) (st : List Value) (S : LT), nx (cod_L_isSound N xs) cut_L_isSound K (k + 1) 9 L st S = (O_istore 3 1) (nx (cod_L_isSound N xs) cut_L_isSound K k) 9 L st S) ∧
  (∀ (K : Kt LT) (k : Nat) (L : xL) (st : List Value) (S : LT), nx (cod_L_isSound N xs) cut_L_isSound K (k + 1) 10 L st S = (O_aload 0 1) (nx (cod_L_isSound N xs) cut_L_isSound K k) 10 L st S) ∧
  (∀ (K : Kt LT) (k : Nat) (L : xL) (st : List Value) (S : LT), nx (cod_L_isSound N xs) cut_L_isSound K (k + 1) 11 L st S = (O_int 0 1) (nx (cod_L_isSound N xs) cut_L_isSound K k) 11 L st S) ∧
  (∀ (K : Kt LT) (k : Nat) (L : xL) (st : List Value) (S : LT), nx (cod_L_isSound N xs) cut_L_isSound K (k + 1) 12 L st S = (O_callV 1 0 (fun S : LT => S.1) (fun S F => (F, S.2)) (spG yX6_station cX6_station 2 (some .int) 3 fpW)) (nx (cod_L_isSound N xs) cut_L_isSound K k) 12 L st S) ∧
  (∀ (K : Kt LT) (k : Nat) (L : xL) (st : List Value) (S : LT), nx (cod_L_isSound N xs) cut_L_isSound K (k + 1) 15 L st S = (O_if_lt 77) (nx (cod_L_isSound N xs) cut_L_isSound K k) 15 L st S) ∧
  (∀ (K : Kt LT) (k : Nat) (L : xL) (st : List Value) (S : LT), nx (cod_L_isSound N xs) cut_L_isSound K (k + 1) 18 L st S = (O_aload 0 1) (nx (cod_L_isSound N xs) cut_L_isSound K k) 18 L st S) ∧
  (∀ (K : Kt LT) (k : Nat) (L : xL) (st : List Value) (S : LT), nx (cod_L_isSound N xs) cut_L_isSound K (k + 1) 19 L st S = (O_int 0 1) (nx (cod_L_isSound N xs) cut_L_isSound K k) 19 L st S) ∧
  (∀ (K : Kt LT) (k : Nat) (L : xL) (st : List Value) (S : LT), nx (cod_L_isSound N xs) cut_L_isSound K (k + 1) 20 L st S = (O_callV 1 0 (fun S : LT => S.1) (fun S F => (F, S.2)) (spG yX6_station cX6_station 2 (some .int) 3 fpW)) (nx (cod_L_isSound N xs) cut_L_isSound K k) 20 L st S) ∧
  (∀ (K : Kt LT) (k : Nat) (L : xL) (st : List Value) (S : LT), nx (cod_L_isSound N xs) cut_L_isSound K (k + 1) 23 L st S = (O_int 2000 3) (nx (cod_L_isSound N xs) cut_L_isSound K k) 23 L st S) ∧
  (∀ (K : Kt LT) (k : Nat) (L : xL) (st : List Value) (S : LT), nx (cod_L_isSound N xs) cut_L_isSound K (k + 1) 26 L st S = (O_icmp_gt 77) (nx (cod_L_isSound N xs) cut_L_isSound K k) 26 L st S) ∧
  (∀ (K : Kt LT) (k : Nat) (L : xL) (st : List Value) (S : LT), nx (cod_L_isSound N xs) cut_L_isSound K (k + 1) 29 L st S = (O_aload 0 1) (nx (cod_L_isSound N xs) cut_L_isSound K k) 29 L st S) ∧
  (∀ (K : Kt LT) (k : Nat) (L : xL) (st : List Value) (S : LT), nx (cod_L_isSound N xs) cut_L_isSound K (k + 1) 30 L st S = (O_int 1 1) (nx (cod_L_isSound N xs) cut_L_isSound K k) 30 L st S) ∧
  (∀ (K : Kt LT) (k : Nat) (L : xL) (st : List Value) (S : LT), nx (cod_L_isSound N xs) cut_L_isSound K (k + 1) 31 L st S = (O_callV 1 0 (fun S : LT => S.1) (fun S F => (F, S.2)) (spG yX6_station cX6_station 2 (some .int) 3 fpW)) (nx (cod_L_isSound N xs) cut_L_isSound K k) 31 L st S) ∧
  (∀ (K : Kt LT) (k : Nat) (L : xL) (st : List Value) (S : LT), nx (cod_L_isSound N xs) cut_L_isSound K (k + 1) 34 L st S = (O_if_lt 77) (nx (cod_L_isSound N xs) cut_L_isSound K k) 34 L st S) ∧
  (∀ (K : Kt LT) (k : Nat) (L : xL) (st : List Value) (S : LT), nx (cod_L_isSound N xs) cut_L_isSound K (k + 1) 37 L st S = (O_aload 0 1) (nx (cod_L_isSound N xs) cut_L_isSound K k) 37 L st S) ∧
  (∀ (K : Kt LT) (k : Nat) (L : xL) (st : List Value) (S : LT), nx (cod_L_isSound N xs) cut_L_isSound K (k + 1) 38 L st S = (O_int 1 1) (nx (cod_L_isSound N xs) cut_L_isSound K k) 38 L st S) ∧
  (∀ (K : Kt LT) (k : Nat) (L : xL) (st : List Value) (S : LT), nx (cod_L_isSound N xs) cut_L_isSound K (k + 1) 39 L st S = (O_callV 1 0 (fun S : LT => S.1) (fun S F => (F, S.2)) (spG yX6_station cX6_station 2 (some .int) 3 fpW)) (nx (cod_L_isSound N xs) cut_L_isSound K k) 39 L st S) ∧
  (∀ (K : Kt LT) (k : Nat) (L : xL) (st : List Value) (S : LT), nx (cod_L_isSound N xs) cut_L_isSound K (k + 1) 42 L st S = (O_int 20000 3) (nx (cod_L_isSound N xs) cut_L_isSound K k) 42 L st S) ∧
  (∀ (K : Kt LT) (k : Nat) (L : xL) (st : List Value) (S : LT), nx (cod_L_isSound N xs) cut_L_isSound K (k + 1) 45 L st S = (O_icmp_gt 77) (nx (cod_L_isSound N xs) cut_L_isSound K k) 45 L st S) ∧
  (∀ (K : Kt LT) (k : Nat) (L : xL) (st : List Value) (S : LT), nx (cod_L_isSound N xs) cut_L_isSound K (k + 1) 48 L st S = (O_iload 3 1) (nx (cod_L_isSound N xs) cut_L_isSound K k) 48 L st S) ∧
  (∀ (K : Kt LT) (k : Nat) (L : xL) (st : List Value) (S : LT), nx (cod_L_isSound N xs) cut_L_isSound K (k + 1) 49 L st S = (O_if_lt 73) (nx (cod_L_isSound N xs) cut_L_isSound K k) 49 L st S) ∧
  (∀ (K : Kt LT) (k : Nat) (L : xL) (st : List Value) (S : LT), nx (cod_L_isSound N xs) cut_L_isSound K (k + 1) 52 L st S = (O_aload 0 1) (nx (cod_L_isSound N xs) cut_L_isSound K k) 52 L st S) ∧
  (∀ (K : Kt LT) (k : Nat) (L : xL) (st : List Value) (S : LT), nx (cod_L_isSound N xs) cut_L_isSound K (k + 1) 53 L st S = (O_iload 3 1) (nx (cod_L_isSound N xs) cut_L_isSound K k) 53 L st S) ∧
  (∀ (K : Kt LT) (k : Nat) (L : xL) (st : List Value) (S : LT), nx (cod_L_isSound N xs) cut_L_isSound K (k + 1) 54 L st S = (O_int 0 1) (nx (cod_L_isSound N xs) cut_L_isSound K k) 54 L st S) ∧
  (∀ (K : Kt LT) (k : Nat) (L : xL) (st : List Value) (S : LT), nx (cod_L_isSound N xs) cut_L_isSound K (k + 1) 55 L st S = (O_callV 2 0 (fun S : LT => S.1) (fun S F => (F, S.2)) (spG yX6_pumpOf cX6_pumpOf 4 (some .int) 2 fpW)) (nx (cod_L_isSound N xs) cut_L_isSound K k) 55 L st S) ∧
  (∀ (K : Kt LT) (k : Nat) (L : xL) (st : List Value) (S : LT), nx (cod_L_isSound N xs) cut_L_isSound K (k + 1) 58 L st S = (O_if_le 77) (nx (cod_L_isSound N xs) cut_L_isSound K k) 58 L st S) ∧
  (∀ (K : Kt LT) (k : Nat) (L : xL) (st : List Value) (S : LT), nx (cod_L_isSound N xs) cut_L_isSound K (k + 1) 61 L st S = (O_aload 0 1) (nx (cod_L_isSound N xs) cut_L_isSound K k) 61 L st S) ∧
  (∀ (K : Kt LT) (k : Nat) (L : xL) (st : List Value) (S : LT), nx (cod_L_isSound N xs) cut_L_isSound K (k + 1) 62 L st S = (O_iload 3 1) (nx (cod_L_isSound N xs) cut_L_isSound K k) 62 L st S) ∧
  (∀ (K : Kt LT) (k : Nat) (L : xL) (st : List Value) (S : LT), nx (cod_L_isSound N xs) cut_L_isSound K (k + 1) 63 L st S = (O_int 4 1) (nx (cod_L_isSound N xs) cut_L_isSound K k) 63 L st S) ∧
  (∀ (K : Kt LT) (k : Nat) (L : xL) (st : List Value) (S : LT), nx (cod_L_isSound N xs) cut_L_isSound K (k + 1) 64 L st S = (O_callV 2 0 (fun S : LT => S.1) (fun S F => (F, S.2)) (spG yX6_pumpOf cX6_pumpOf 4 (some .int) 2 fpW)) (nx (cod_L_isSound N xs) cut_L_isSound K k) 64 L st S) ∧
  (∀ (K : Kt LT) (k : Nat) (L : xL) (st : List Value) (S : LT), nx (cod_L_isSound N xs) cut_L_isSound K (k + 1) 67 L st S = (O_int 300 3) (nx (cod_L_isSound N xs) cut_L_isSound K k) 67 L st S) ∧
  (∀ (K : Kt LT) (k : Nat) (L : xL) (st : List Value) (S : LT), nx (cod_L_isSound N xs) cut_L_isSound K (k + 1) 70 L st S = (O_icmp_lt 77) (nx (cod_L_isSound N xs) cut_L_isSound K k) 70 L st S) ∧
  (∀ (K : Kt LT) (k : Nat) (L : xL) (st : List Value) (S : LT), nx (cod_L_isSound N xs) cut_L_isSound K (k + 1) 73 L st S = K 73 L st S) ∧
  (∀ (K : Kt LT) (k : Nat) (L : xL) (st : List Value) (S : LT), nx1 (cod_L_isSound N xs) cut_L_isSound K k 73 L st S = (O_int 1 1) (nx (cod_L_isSound N xs) cut_L_isSound K k) 73 L st S) ∧
  (∀ (K : Kt LT) (k : Nat) (L : xL) (st : List Value) (S : LT), nx (cod_L_isSound N xs) cut_L_isSound K (k + 1) 74 L st S = (O_goto 78) (nx (cod_L_isSound N xs) cut_L_isSound K k) 74 L st S) ∧
  (∀ (K : Kt LT) (k : Nat) (L : xL) (st : List Value) (S : LT), nx (cod_L_isSound N xs) cut_L_isSound K (k + 1) 77 L st S = (O_int 0 1) (nx (cod_L_isSound N xs) cut_L_isSound K k) 77 L st S) ∧
  (∀ (K : Kt LT) (k : Nat) (L : xL) (st : List Value) (S : LT), nx (cod_L_isSound N xs) cut_L_isSound K (k + 1) 78 L st S = (O_istore 4 2) (nx (cod_L_isSound N xs) cut_L_isSound K k) 78 L st S) ∧
  (∀ (K : Kt LT) (k : Nat) (L : xL) (st : List Value) (S : LT), nx (cod_L_isSound N xs) cut_L_isSound K (k + 1) 80 L st S = (O_int 0 1) (nx (cod_L_isSound N xs) cut_L_isSound K k) 80 L st S) ∧
  (∀ (K : Kt LT) (k : Nat) (L : xL) (st : List Value) (S : LT), nx (cod_L_isSound N xs) cut_L_isSound K (k + 1) 81 L st S = (O_istore 5 2) (nx (cod_L_isSound N xs) cut_L_isSound K k) 81 L st S) ∧
  (∀ (K : Kt LT) (k : Nat) (L : xL) (st : List Value) (S : LT), nx (cod_L_isSound N xs) cut_L_isSound K (k + 1) 83 L st S = K 83 L st S) ∧
  (∀ (K : Kt LT) (k : Nat) (L : xL) (st : List Value) (S : LT), nx1 (cod_L_isSound N xs) cut_L_isSound K k 83 L st S = (O_iload 5 2) (nx (cod_L_isSound N xs) cut_L_isSound K k) 83 L st S) ∧
  (∀ (K : Kt LT) (k : Nat) (L : xL) (st : List Value) (S : LT), nx (cod_L_isSound N xs) cut_L_isSound K (k + 1) 85 L st S = (O_int 3 1) (nx (cod_L_isSound N xs) cut_L_isSound K k) 85 L st S) ∧
  (∀ (K : Kt LT) (k : Nat) (L : xL) (st : List Value) (S : LT), nx (cod_L_isSound N xs) cut_L_isSound K (k + 1) 86 L st S = (O_icmp_ge 228) (nx (cod_L_isSound N xs) cut_L_isSound K k) 86 L st S) ∧
  (∀ (K : Kt LT) (k : Nat) (L : xL) (st : List Value) (S : LT), nx (cod_L_isSound N xs) cut_L_isSound K (k + 1) 89 L st S = (O_aload 0 1) (nx (cod_L_isSound N xs) cut_L_isSound K k) 89 L st S) ∧
  (∀ (K : Kt LT) (k : Nat) (L : xL) (st : List Value) (S : LT), nx (cod_L_isSound N xs) cut_L_isSound K (k + 1) 90 L st S = (O_iload 5 2) (nx (cod_L_isSound N xs) cut_L_isSound K k) 90 L st S) ∧
  (∀ (K : Kt LT) (k : Nat) (L : xL) (st : List Value) (S : LT), nx (cod_L_isSound N xs) cut_L_isSound K (k + 1) 92 L st S = (O_int 4 1) (nx (cod_L_isSound N xs) cut_L_isSound K k) 92 L st S) ∧
  (∀ (K : Kt LT) (k : Nat) (L : xL) (st : List Value) (S : LT), nx (cod_L_isSound N xs) cut_L_isSound K (k + 1) 93 L st S = (O_callV 2 0 (fun S : LT => S.1) (fun S F => (F, S.2)) (spG yX6_pumpOf cX6_pumpOf 4 (some .int) 2 fpW)) (nx (cod_L_isSound N xs) cut_L_isSound K k) 93 L st S) ∧
  (∀ (K : Kt LT) (k : Nat) (L : xL) (st : List Value) (S : LT), nx (cod_L_isSound N xs) cut_L_isSound K (k + 1) 96 L st S = (O_istore 6 2) (nx (cod_L_isSound N xs) cut_L_isSound K k) 96 L st S) ∧
  (∀ (K : Kt LT) (k : Nat) (L : xL) (st : List Value) (S : LT), nx (cod_L_isSound N xs) cut_L_isSound K (k + 1) 98 L st S = K 98 L st S) ∧
  (∀ (K : Kt LT) (k : Nat) (L : xL) (st : List Value) (S : LT), nx1 (cod_L_isSound N xs) cut_L_isSound K k 98 L st S = (O_iload 1 1) (nx (cod_L_isSound N xs) cut_L_isSound K k) 98 L st S) ∧
  (∀ (K : Kt LT) (k : Nat) (L : xL) (st : List Value) (S : LT), nx (cod_L_isSound N xs) cut_L_isSound K (k + 1) 99 L st S = (O_iload 6 2) (nx (cod_L_isSound N xs) cut_L_isSound K k) 99 L st S) ∧
  (∀ (K : Kt LT) (k : Nat) (L : xL) (st : List Value) (S : LT), nx (cod_L_isSound N xs) cut_L_isSound K (k + 1) 101 L st S = (O_if_le 108) (nx (cod_L_isSound N xs) cut_L_isSound K k) 101 L st S) ∧
  (∀ (K : Kt LT) (k : Nat) (L : xL) (st : List Value) (S : LT), nx (cod_L_isSound N xs) cut_L_isSound K (k + 1) 104 L st S = (O_int 1 1) (nx (cod_L_isSound N xs) cut_L_isSound K k) 104 L st S) ∧
  (∀ (K : Kt LT) (k : Nat) (L : xL) (st : List Value) (S : LT), nx (cod_L_isSound N xs) cut_L_isSound K (k + 1) 105 L st S = (O_goto 109) (nx (cod_L_isSound N xs) cut_L_isSound K k) 105 L st S) ∧
  (∀ (K : Kt LT) (k : Nat) (L : xL) (st : List Value) (S : LT), nx (cod_L_isSound N xs) cut_L_isSound K (k + 1) 108 L st S = (O_int 0 1) (nx (cod_L_isSound N xs) cut_L_isSound K k) 108 L st S) ∧
  (∀ (K : Kt LT) (k : Nat) (L : xL) (st : List Value) (S : LT), nx (cod_L_isSound N xs) cut_L_isSound K (k + 1) 109 L st S = (O_iadd) (nx (cod_L_isSound N xs) cut_L_isSound K k) 109 L st S) ∧
  (∀ (K : Kt LT) (k : Nat) (L : xL) (st : List Value) (S : LT), nx (cod_L_isSound N xs) cut_L_isSound K (k + 1) 110 L st S = (O_istore 1 1) (nx (cod_L_isSound N xs) cut_L_isSound K k) 110 L st S) ∧
  (∀ (K : Kt LT) (k : Nat) (L : xL) (st : List Value) (S : LT), nx (cod_L_isSound N xs) cut_L_isSound K (k + 1) 111 L st S = K 111 L st S) ∧
  (∀ (K : Kt LT) (k : Nat) (L : xL) (st : List Value) (S : LT), nx1 (cod_L_isSound N xs) cut_L_isSound K k 111 L st S = (O_iload 2 1) (nx (cod_L_isSound N xs) cut_L_isSound K k) 111 L st S) ∧
  (∀ (K : Kt LT) (k : Nat) (L : xL) (st : List Value) (S : LT), nx (cod_L_isSound N xs) cut_L_isSound K (k + 1) 112 L st S = (O_iload 6 2) (nx (cod_L_isSound N xs) cut_L_isSound K k) 112 L st S) ∧
  (∀ (K : Kt LT) (k : Nat) (L : xL) (st : List Value) (S : LT), nx (cod_L_isSound N xs) cut_L_isSound K (k + 1) 114 L st S = (O_if_ne 132) (nx (cod_L_isSound N xs) cut_L_isSound K k) 114 L st S) ∧
  (∀ (K : Kt LT) (k : Nat) (L : xL) (st : List Value) (S : LT), nx (cod_L_isSound N xs) cut_L_isSound K (k + 1) 117 L st S = (O_aload 0 1) (nx (cod_L_isSound N xs) cut_L_isSound K k) 117 L st S) ∧
  (∀ (K : Kt LT) (k : Nat) (L : xL) (st : List Value) (S : LT), nx (cod_L_isSound N xs) cut_L_isSound K (k + 1) 118 L st S = (O_iload 5 2) (nx (cod_L_isSound N xs) cut_L_isSound K k) 118 L st S) ∧
  (∀ (K : Kt LT) (k : Nat) (L : xL) (st : List Value) (S : LT), nx (cod_L_isSound N xs) cut_L_isSound K (k + 1) 120 L st S = (O_int 3 1) (nx (cod_L_isSound N xs) cut_L_isSound K k) 120 L st S) ∧
  (∀ (K : Kt LT) (k : Nat) (L : xL) (st : List Value) (S : LT), nx (cod_L_isSound N xs) cut_L_isSound K (k + 1) 121 L st S = (O_callV 2 0 (fun S : LT => S.1) (fun S F => (F, S.2)) (spG yX6_pumpOf cX6_pumpOf 4 (some .int) 2 fpW)) (nx (cod_L_isSound N xs) cut_L_isSound K k) 121 L st S) ∧
  (∀ (K : Kt LT) (k : Nat) (L : xL) (st : List Value) (S : LT), nx (cod_L_isSound N xs) cut_L_isSound K (k + 1) 124 L st S = (O_int 1 1) (nx (cod_L_isSound N xs) cut_L_isSound K k) 124 L st S) ∧
  (∀ (K : Kt LT) (k : Nat) (L : xL) (st : List Value) (S : LT), nx (cod_L_isSound N xs) cut_L_isSound K (k + 1) 125 L st S = (O_icmp_ne 132) (nx (cod_L_isSound N xs) cut_L_isSound K k) 125 L st S) ∧
  (∀ (K : Kt LT) (k : Nat) (L : xL) (st : List Value) (S : LT), nx (cod_L_isSound N xs) cut_L_isSound K (k + 1) 128 L st S = (O_int 1 1) (nx (cod_L_isSound N xs) cut_L_isSound K k) 128 L st S) ∧
  (∀ (K : Kt LT) (k : Nat) (L : xL) (st : List Value) (S : LT), nx (cod_L_isSound N xs) cut_L_isSound K (k + 1) 129 L st S = (O_goto 133) (nx (cod_L_isSound N xs) cut_L_isSound K k) 129 L st S) ∧
  (∀ (K : Kt LT) (k : Nat) (L : xL) (st : List Value) (S : LT), nx (cod_L_isSound N xs) cut_L_isSound K (k + 1) 132 L st S = (O_int 0 1) (nx (cod_L_isSound N xs) cut_L_isSound K k) 132 L st S) ∧
  (∀ (K : Kt LT) (k : Nat) (L : xL) (st : List Value) (S : LT), nx (cod_L_isSound N xs) cut_L_isSound K (k + 1) 133 L st S = (O_iadd) (nx (cod_L_isSound N xs) cut_L_isSound K k) 133 L st S) ∧
  (∀ (K : Kt LT) (k : Nat) (L : xL) (st : List Value) (S : LT), nx (cod_L_isSound N xs) cut_L_isSound K (k + 1) 134 L st S = (O_istore 2 1) (nx (cod_L_isSound N xs) cut_L_isSound K k) 134 L st S) ∧
  (∀ (K : Kt LT) (k : Nat) (L : xL) (st : List Value) (S : LT), nx (cod_L_isSound N xs) cut_L_isSound K (k + 1) 135 L st S = K 135 L st S) ∧
  (∀ (K : Kt LT) (k : Nat) (L : xL) (st : List Value) (S : LT), nx1 (cod_L_isSound N xs) cut_L_isSound K k 135 L st S = (O_iload 4 2) (nx (cod_L_isSound N xs) cut_L_isSound K k) 135 L st S) ∧
  (∀ (K : Kt LT) (k : Nat) (L : xL) (st : List Value) (S : LT), nx (cod_L_isSound N xs) cut_L_isSound K (k + 1) 137 L st S = (O_if_eq 219) (nx (cod_L_isSound N xs) cut_L_isSound K k) 137 L st S) ∧
  (∀ (K : Kt LT) (k : Nat) (L : xL) (st : List Value) (S : LT), nx (cod_L_isSound N xs) cut_L_isSound K (k + 1) 140 L st S = (O_iload 6 2) (nx (cod_L_isSound N xs) cut_L_isSound K k) 140 L st S) ∧
  (∀ (K : Kt LT) (k : Nat) (L : xL) (st : List Value) (S : LT), nx (cod_L_isSound N xs) cut_L_isSound K (k + 1) 142 L st S = (O_if_eq 156) (nx (cod_L_isSound N xs) cut_L_isSound K k) 142 L st S) ∧
  (∀ (K : Kt LT) (k : Nat) (L : xL) (st : List Value) (S : LT), nx (cod_L_isSound N xs) cut_L_isSound K (k + 1) 145 L st S = (O_aload 0 1) (nx (cod_L_isSound N xs) cut_L_isSound K k) 145 L st S) ∧
  (∀ (K : Kt LT) (k : Nat) (L : xL) (st : List Value) (S : LT), nx (cod_L_isSound N xs) cut_L_isSound K (k + 1) 146 L st S = (O_iload 5 2) (nx (cod_L_isSound N xs) cut_L_isSound K k) 146 L st S) ∧
  (∀ (K : Kt LT) (k : Nat) (L : xL) (st : List Value) (S : LT), nx (cod_L_isSound N xs) cut_L_isSound K (k + 1) 148 L st S = (O_int 3 1) (nx (cod_L_isSound N xs) cut_L_isSound K k) 148 L st S) ∧
  (∀ (K : Kt LT) (k : Nat) (L : xL) (st : List Value) (S : LT), nx (cod_L_isSound N xs) cut_L_isSound K (k + 1) 149 L st S = (O_callV 2 0 (fun S : LT => S.1) (fun S F => (F, S.2)) (spG yX6_pumpOf cX6_pumpOf 4 (some .int) 2 fpW)) (nx (cod_L_isSound N xs) cut_L_isSound K k) 149 L st S) ∧
  (∀ (K : Kt LT) (k : Nat) (L : xL) (st : List Value) (S : LT), nx (cod_L_isSound N xs) cut_L_isSound K (k + 1) 152 L st S = (O_int 1 1) (nx (cod_L_isSound N xs) cut_L_isSound K k) 152 L st S) ∧
  (∀ (K : Kt LT) (k : Nat) (L : xL) (st : List Value) (S : LT), nx (cod_L_isSound N xs) cut_L_isSound K (k + 1) 153 L st S = (O_icmp_ne 219) (nx (cod_L_isSound N xs) cut_L_isSound K k) 153 L st S) ∧
  (∀ (K : Kt LT) (k : Nat) (L : xL) (st : List Value) (S : LT), nx (cod_L_isSound N xs) cut_L_isSound K (k + 1) 156 L st S = K 156 L st S) ∧
  (∀ (K : Kt LT) (k : Nat) (L : xL) (st : List Value) (S : LT), nx1 (cod_L_isSound N xs) cut_L_isSound K k 156 L st S = (O_iload 6 2) (nx (cod_L_isSound N xs) cut_L_isSound K k) 156 L st S) ∧
  (∀ (K : Kt LT) (k : Nat) (L : xL) (st : List Value) (S : LT), nx (cod_L_isSound N xs) cut_L_isSound K (k + 1) 158 L st S = (O_if_eq 175) (nx (cod_L_isSound N xs) cut_L_isSound K k) 158 L st S) ∧
  (∀ (K : Kt LT) (k : Nat) (L : xL) (st : List Value) (S : LT), nx (cod_L_isSound N xs) cut_L_isSound K (k + 1) 161 L st S = (O_iload 6 2) (nx (cod_L_isSound N xs) cut_L_isSound K k) 161 L st S) ∧
  (∀ (K : Kt LT) (k : Nat) (L : xL) (st : List Value) (S : LT), nx (cod_L_isSound N xs) cut_L_isSound K (k + 1) 163 L st S = (O_int 1000 3) (nx (cod_L_isSound N xs) cut_L_isSound K k) 163 L st S) ∧
  (∀ (K : Kt LT) (k : Nat) (L : xL) (st : List Value) (S : LT), nx (cod_L_isSound N xs) cut_L_isSound K (k + 1) 166 L st S = (O_icmp_eq 175) (nx (cod_L_isSound N xs) cut_L_isSound K k) 166 L st S) ∧
  (∀ (K : Kt LT) (k : Nat) (L : xL) (st : List Value) (S : LT), nx (cod_L_isSound N xs) cut_L_isSound K (k + 1) 169 L st S = (O_iload 5 2) (nx (cod_L_isSound N xs) cut_L_isSound K k) 169 L st S) ∧
  (∀ (K : Kt LT) (k : Nat) (L : xL) (st : List Value) (S : LT), nx (cod_L_isSound N xs) cut_L_isSound K (k + 1) 171 L st S = (O_iload 3 1) (nx (cod_L_isSound N xs) cut_L_isSound K k) 171 L st S) ∧
  (∀ (K : Kt LT) (k : Nat) (L : xL) (st : List Value) (S : LT), nx (cod_L_isSound N xs) cut_L_isSound K (k + 1) 172 L st S = (O_icmp_ne 219) (nx (cod_L_isSound N xs) cut_L_isSound K k) 172 L st S) ∧
  (∀ (K : Kt LT) (k : Nat) (L : xL) (st : List Value) (S : LT), nx (cod_L_isSound N xs) cut_L_isSound K (k + 1) 175 L st S = K 175 L st S) ∧
  (∀ (K : Kt LT) (k : Nat) (L : xL) (st : List Value) (S : LT), nx1 (cod_L_isSound N xs) cut_L_isSound K k 175 L st S = (O_aload 0 1) (nx (cod_L_isSound N xs) cut_L_isSound K k) 175 L st S) ∧
  (∀ (K : Kt LT) (k : Nat) (L : xL) (st : List Value) (S : LT), nx (cod_L_isSound N xs) cut_L_isSound K (k + 1) 176 L st S = (O_iload 5 2) (nx (cod_L_isSound N xs) cut_L_isSound K k) 176 L st S) ∧
  (∀ (K : Kt LT) (k : Nat) (L : xL) (st : List Value) (S : LT), nx (cod_L_isSound N xs) cut_L_isSound K (k + 1) 178 L st S = (O_int 5 1) (nx (cod_L_isSound N xs) cut_L_isSound K k) 178 L st S) ∧
  (∀ (K : Kt LT) (k : Nat) (L : xL) (st : List Value) (S : LT), nx (cod_L_isSound N xs) cut_L_isSound K (k + 1) 179 L st S = (O_callV 2 0 (fun S : LT => S.1) (fun S F => (F, S.2)) (spG yX6_pumpOf cX6_pumpOf 4 (some .int) 2 fpW)) (nx (cod_L_isSound N xs) cut_L_isSound K k) 179 L st S) ∧
  (∀ (K : Kt LT) (k : Nat) (L : xL) (st : List Value) (S : LT), nx (cod_L_isSound N xs) cut_L_isSound K (k + 1) 182 L st S = (O_iload 5 2) (nx (cod_L_isSound N xs) cut_L_isSound K k) 182 L st S) ∧
  (∀ (K : Kt LT) (k : Nat) (L : xL) (st : List Value) (S : LT), nx (cod_L_isSound N xs) cut_L_isSound K (k + 1) 184 L st S = (O_iload 3 1) (nx (cod_L_isSound N xs) cut_L_isSound K k) 184 L st S) ∧
  (∀ (K : Kt LT) (k : Nat) (L : xL) (st : List Value) (S : LT), nx (cod_L_isSound N xs) cut_L_isSound K (k + 1) 185 L st S = (O_icmp_ne 192) (nx (cod_L_isSound N xs) cut_L_isSound K k) 185 L st S) ∧
  (∀ (K : Kt LT) (k : Nat) (L : xL) (st : List Value) (S : LT), nx (cod_L_isSound N xs) cut_L_isSound K (k + 1) 188 L st S = (O_int 1 1) (nx (cod_L_isSound N xs) cut_L_isSound K k) 188 L st S) ∧
  (∀ (K : Kt LT) (k : Nat) (L : xL) (st : List Value) (S : LT), nx (cod_L_isSound N xs) cut_L_isSound K (k + 1) 189 L st S = (O_goto 193) (nx (cod_L_isSound N xs) cut_L_isSound K k) 189 L st S) ∧
  (∀ (K : Kt LT) (k : Nat) (L : xL) (st : List Value) (S : LT), nx (cod_L_isSound N xs) cut_L_isSound K (k + 1) 192 L st S = (O_int 0 1) (nx (cod_L_isSound N xs) cut_L_isSound K k) 192 L st S) ∧
  (∀ (K : Kt LT) (k : Nat) (L : xL) (st : List Value) (S : LT), nx (cod_L_isSound N xs) cut_L_isSound K (k + 1) 193 L st S = (O_icmp_ne 219) (nx (cod_L_isSound N xs) cut_L_isSound K k) 193 L st S) ∧
  (∀ (K : Kt LT) (k : Nat) (L : xL) (st : List Value) (S : LT), nx (cod_L_isSound N xs) cut_L_isSound K (k + 1) 196 L st S = (O_aload 0 1) (nx (cod_L_isSound N xs) cut_L_isSound K k) 196 L st S) ∧
  (∀ (K : Kt LT) (k : Nat) (L : xL) (st : List Value) (S : LT), nx (cod_L_isSound N xs) cut_L_isSound K (k + 1) 197 L st S = (O_iload 5 2) (nx (cod_L_isSound N xs) cut_L_isSound K k) 197 L st S) ∧
  (∀ (K : Kt LT) (k : Nat) (L : xL) (st : List Value) (S : LT), nx (cod_L_isSound N xs) cut_L_isSound K (k + 1) 199 L st S = (O_int 7 2) (nx (cod_L_isSound N xs) cut_L_isSound K k) 199 L st S) ∧
  (∀ (K : Kt LT) (k : Nat) (L : xL) (st : List Value) (S : LT), nx (cod_L_isSound N xs) cut_L_isSound K (k + 1) 201 L st S = (O_callV 2 0 (fun S : LT => S.1) (fun S F => (F, S.2)) (spG yX6_pumpOf cX6_pumpOf 4 (some .int) 2 fpW)) (nx (cod_L_isSound N xs) cut_L_isSound K k) 201 L st S) ∧
  (∀ (K : Kt LT) (k : Nat) (L : xL) (st : List Value) (S : LT), nx (cod_L_isSound N xs) cut_L_isSound K (k + 1) 204 L st S = (O_aload 0 1) (nx (cod_L_isSound N xs) cut_L_isSound K k) 204 L st S) ∧
  (∀ (K : Kt LT) (k : Nat) (L : xL) (st : List Value) (S : LT), nx (cod_L_isSound N xs) cut_L_isSound K (k + 1) 205 L st S = (O_iload 5 2) (nx (cod_L_isSound N xs) cut_L_isSound K k) 205 L st S) ∧
  (∀ (K : Kt LT) (k : Nat) (L : xL) (st : List Value) (S : LT), nx (cod_L_isSound N xs) cut_L_isSound K (k + 1) 207 L st S = (O_int 6 2) (nx (cod_L_isSound N xs) cut_L_isSound K k) 207 L st S) ∧
  (∀ (K : Kt LT) (k : Nat) (L : xL) (st : List Value) (S : LT), nx (cod_L_isSound N xs) cut_L_isSound K (k + 1) 209 L st S = (O_callV 2 0 (fun S : LT => S.1) (fun S F => (F, S.2)) (spG yX6_pumpOf cX6_pumpOf 4 (some .int) 2 fpW)) (nx (cod_L_isSound N xs) cut_L_isSound K k) 209 L st S) ∧
  (∀ (K : Kt LT) (k : Nat) (L : xL) (st : List Value) (S : LT), nx (cod_L_isSound N xs) cut_L_isSound K (k + 1) 212 L st S = (O_icmp_gt 219) (nx (cod_L_isSound N xs) cut_L_isSound K k) 212 L st S) ∧
  (∀ (K : Kt LT) (k : Nat) (L : xL) (st : List Value) (S : LT), nx (cod_L_isSound N xs) cut_L_isSound K (k + 1) 215 L st S = (O_int 1 1) (nx (cod_L_isSound N xs) cut_L_isSound K k) 215 L st S) ∧
  (∀ (K : Kt LT) (k : Nat) (L : xL) (st : List Value) (S : LT), nx (cod_L_isSound N xs) cut_L_isSound K (k + 1) 216 L st S = (O_goto 220) (nx (cod_L_isSound N xs) cut_L_isSound K k) 216 L st S) ∧
  (∀ (K : Kt LT) (k : Nat) (L : xL) (st : List Value) (S : LT), nx (cod_L_isSound N xs) cut_L_isSound K (k + 1) 219 L st S = (O_int 0 1) (nx (cod_L_isSound N xs) cut_L_isSound K k) 219 L st S) ∧
  (∀ (K : Kt LT) (k : Nat) (L : xL) (st : List Value) (S : LT), nx (cod_L_isSound N xs) cut_L_isSound K (k + 1) 220 L st S = (O_istore 4 2) (nx (cod_L_isSound N xs) cut_L_isSound K k) 220 L st S) ∧
  (∀ (K : Kt LT) (k : Nat) (L : xL) (st : List Value) (S : LT), nx (cod_L_isSound N xs) cut_L_isSound K (k + 1) 222 L st S = (O_iinc 5 1) (nx (cod_L_isSound N xs) cut_L_isSound K k) 222 L st S) ∧
  (∀ (K : Kt LT) (k : Nat) (L : xL) (st : List Value) (S : LT), nx (cod_L_isSound N xs) cut_L_isSound K (k + 1) 225 L st S = (O_goto 83) (nx (cod_L_isSound N xs) cut_L_isSound K k) 225 L st S) ∧
  (∀ (K : Kt LT) (k : Nat) (L : xL) (st : List Value) (S : LT), nx (cod_L_isSound N xs) cut_L_isSound K (k + 1) 228 L st S = K 228 L st S) ∧
  (∀ (K : Kt LT) (k : Nat) (L : xL) (st : List Value) (S : LT), nx1 (cod_L_isSound N xs) cut_L_isSound K k 228 L st S = (O_iload 4 2) (nx (cod_L_isSound N xs) cut_L_isSound K k) 228 L st S) ∧
  (∀ (K : Kt LT) (k : Nat) (L : xL) (st : List Value) (S : LT), nx (cod_L_isSound N xs) cut_L_isSound K (k + 1) 230 L st S = (O_if_eq 296) (nx (cod_L_isSound N xs) cut_L_isSound K k) 230 L st S) ∧
  (∀ (K : Kt LT) (k : Nat) (L : xL) (st : List Value) (S : LT), nx (cod_L_isSound N xs) cut_L_isSound K (k + 1) 233 L st S = (O_aload 0 1) (nx (cod_L_isSound N xs) cut_L_isSound K k) 233 L st S) ∧
  (∀ (K : Kt LT) (k : Nat) (L : xL) (st : List Value) (S : LT), nx (cod_L_isSound N xs) cut_L_isSound K (k + 1) 234 L st S = (O_int 5 1) (nx (cod_L_isSound N xs) cut_L_isSound K k) 234 L st S) ∧
  (∀ (K : Kt LT) (k : Nat) (L : xL) (st : List Value) (S : LT), nx (cod_L_isSound N xs) cut_L_isSound K (k + 1) 235 L st S = (O_callV 1 0 (fun S : LT => S.1) (fun S F => (F, S.2)) (spG yX6_station cX6_station 2 (some .int) 3 fpW)) (nx (cod_L_isSound N xs) cut_L_isSound K k) 235 L st S) ∧
  (∀ (K : Kt LT) (k : Nat) (L : xL) (st : List Value) (S : LT), nx (cod_L_isSound N xs) cut_L_isSound K (k + 1) 238 L st S = (O_iload 1 1) (nx (cod_L_isSound N xs) cut_L_isSound K k) 238 L st S) ∧
  (∀ (K : Kt LT) (k : Nat) (L : xL) (st : List Value) (S : LT), nx (cod_L_isSound N xs) cut_L_isSound K (k + 1) 239 L st S = (O_icmp_ne 296) (nx (cod_L_isSound N xs) cut_L_isSound K k) 239 L st S) ∧
  (∀ (K : Kt LT) (k : Nat) (L : xL) (st : List Value) (S : LT), nx (cod_L_isSound N xs) cut_L_isSound K (k + 1) 242 L st S = (O_aload 0 1) (nx (cod_L_isSound N xs) cut_L_isSound K k) 242 L st S) ∧
  (∀ (K : Kt LT) (k : Nat) (L : xL) (st : List Value) (S : LT), nx (cod_L_isSound N xs) cut_L_isSound K (k + 1) 243 L st S = (O_int 4 1) (nx (cod_L_isSound N xs) cut_L_isSound K k) 243 L st S) ∧
  (∀ (K : Kt LT) (k : Nat) (L : xL) (st : List Value) (S : LT), nx (cod_L_isSound N xs) cut_L_isSound K (k + 1) 244 L st S = (O_callV 1 0 (fun S : LT => S.1) (fun S F => (F, S.2)) (spG yX6_count cX6_count 2 (some .int) 2 fpW)) (nx (cod_L_isSound N xs) cut_L_isSound K k) 244 L st S) ∧
  (∀ (K : Kt LT) (k : Nat) (L : xL) (st : List Value) (S : LT), nx (cod_L_isSound N xs) cut_L_isSound K (k + 1) 247 L st S = (O_iload 2 1) (nx (cod_L_isSound N xs) cut_L_isSound K k) 247 L st S) ∧
  (∀ (K : Kt LT) (k : Nat) (L : xL) (st : List Value) (S : LT), nx (cod_L_isSound N xs) cut_L_isSound K (k + 1) 248 L st S = (O_icmp_ne 296) (nx (cod_L_isSound N xs) cut_L_isSound K k) 248 L st S) ∧
  (∀ (K : Kt LT) (k : Nat) (L : xL) (st : List Value) (S : LT), nx (cod_L_isSound N xs) cut_L_isSound K (k + 1) 251 L st S = (O_aload 0 1) (nx (cod_L_isSound N xs) cut_L_isSound K k) 251 L st S) ∧
  (∀ (K : Kt LT) (k : Nat) (L : xL) (st : List Value) (S : LT), nx (cod_L_isSound N xs) cut_L_isSound K (k + 1) 252 L st S = (O_int 6 2) (nx (cod_L_isSound N xs) cut_L_isSound K k) 252 L st S) ∧
  (∀ (K : Kt LT) (k : Nat) (L : xL) (st : List Value) (S : LT), nx (cod_L_isSound N xs) cut_L_isSound K (k + 1) 254 L st S = (O_callV 1 0 (fun S : LT => S.1) (fun S F => (F, S.2)) (spG yX6_station cX6_station 2 (some .int) 3 fpW)) (nx (cod_L_isSound N xs) cut_L_isSound K k) 254 L st S) ∧
  (∀ (K : Kt LT) (k : Nat) (L : xL) (st : List Value) (S : LT), nx (cod_L_isSound N xs) cut_L_isSound K (k + 1) 257 L st S = (O_if_eq 264) (nx (cod_L_isSound N xs) cut_L_isSound K k) 257 L st S) ∧
  (∀ (K : Kt LT) (k : Nat) (L : xL) (st : List Value) (S : LT), nx (cod_L_isSound N xs) cut_L_isSound K (k + 1) 260 L st S = (O_iload 1 1) (nx (cod_L_isSound N xs) cut_L_isSound K k) 260 L st S) ∧
  (∀ (K : Kt LT) (k : Nat) (L : xL) (st : List Value) (S : LT), nx (cod_L_isSound N xs) cut_L_isSound K (k + 1) 261 L st S = (O_if_ne 296) (nx (cod_L_isSound N xs) cut_L_isSound K k) 261 L st S) ∧
  (∀ (K : Kt LT) (k : Nat) (L : xL) (st : List Value) (S : LT), nx (cod_L_isSound N xs) cut_L_isSound K (k + 1) 264 L st S = K 264 L st S) ∧
  (∀ (K : Kt LT) (k : Nat) (L : xL) (st : List Value) (S : LT), nx1 (cod_L_isSound N xs) cut_L_isSound K k 264 L st S = (O_aload 0 1) (nx (cod_L_isSound N xs) cut_L_isSound K k) 264 L st S) ∧
  (∀ (K : Kt LT) (k : Nat) (L : xL) (st : List Value) (S : LT), nx (cod_L_isSound N xs) cut_L_isSound K (k + 1) 265 L st S = (O_int 0 1) (nx (cod_L_isSound N xs) cut_L_isSound K k) 265 L st S) ∧
  (∀ (K : Kt LT) (k : Nat) (L : xL) (st : List Value) (S : LT), nx (cod_L_isSound N xs) cut_L_isSound K (k + 1) 266 L st S = (O_int 2 1) (nx (cod_L_isSound N xs) cut_L_isSound K k) 266 L st S) ∧
  (∀ (K : Kt LT) (k : Nat) (L : xL) (st : List Value) (S : LT), nx (cod_L_isSound N xs) cut_L_isSound K (k + 1) 267 L st S = (O_callV 2 0 (fun S : LT => S.1) (fun S F => (F, S.2)) (spG yX6_zoneOf cX6_zoneOf 4 (some .int) 1 fpW)) (nx (cod_L_isSound N xs) cut_L_isSound K k) 267 L st S) ∧
  (∀ (K : Kt LT) (k : Nat) (L : xL) (st : List Value) (S : LT), nx (cod_L_isSound N xs) cut_L_isSound K (k + 1) 270 L st S = (O_aload 0 1) (nx (cod_L_isSound N xs) cut_L_isSound K k) 270 L st S) ∧
  (∀ (K : Kt LT) (k : Nat) (L : xL) (st : List Value) (S : LT), nx (cod_L_isSound N xs) cut_L_isSound K (k + 1) 271 L st S = (O_int 1 1) (nx (cod_L_isSound N xs) cut_L_isSound K k) 271 L st S) ∧
  (∀ (K : Kt LT) (k : Nat) (L : xL) (st : List Value) (S : LT), nx (cod_L_isSound N xs) cut_L_isSound K (k + 1) 272 L st S = (O_int 2 1) (nx (cod_L_isSound N xs) cut_L_isSound K k) 272 L st S) ∧
  (∀ (K : Kt LT) (k : Nat) (L : xL) (st : List Value) (S : LT), nx (cod_L_isSound N xs) cut_L_isSound K (k + 1) 273 L st S = (O_callV 2 0 (fun S : LT => S.1) (fun S F => (F, S.2)) (spG yX6_zoneOf cX6_zoneOf 4 (some .int) 1 fpW)) (nx (cod_L_isSound N xs) cut_L_isSound K k) 273 L st S) ∧
  (∀ (K : Kt LT) (k : Nat) (L : xL) (st : List Value) (S : LT), nx (cod_L_isSound N xs) cut_L_isSound K (k + 1) 276 L st S = (O_iadd) (nx (cod_L_isSound N xs) cut_L_isSound K k) 276 L st S) ∧
  (∀ (K : Kt LT) (k : Nat) (L : xL) (st : List Value) (S : LT), nx (cod_L_isSound N xs) cut_L_isSound K (k + 1) 277 L st S = (O_aload 0 1) (nx (cod_L_isSound N xs) cut_L_isSound K k) 277 L st S) ∧
  (∀ (K : Kt LT) (k : Nat) (L : xL) (st : List Value) (S : LT), nx (cod_L_isSound N xs) cut_L_isSound K (k + 1) 278 L st S = (O_int 2 1) (nx (cod_L_isSound N xs) cut_L_isSound K k) 278 L st S) ∧
  (∀ (K : Kt LT) (k : Nat) (L : xL) (st : List Value) (S : LT), nx (cod_L_isSound N xs) cut_L_isSound K (k + 1) 279 L st S = (O_int 2 1) (nx (cod_L_isSound N xs) cut_L_isSound K k) 279 L st S) ∧
  (∀ (K : Kt LT) (k : Nat) (L : xL) (st : List Value) (S : LT), nx (cod_L_isSound N xs) cut_L_isSound K (k + 1) 280 L st S = (O_callV 2 0 (fun S : LT => S.1) (fun S F => (F, S.2)) (spG yX6_zoneOf cX6_zoneOf 4 (some .int) 1 fpW)) (nx (cod_L_isSound N xs) cut_L_isSound K k) 280 L st S) ∧
  (∀ (K : Kt LT) (k : Nat) (L : xL) (st : List Value) (S : LT), nx (cod_L_isSound N xs) cut_L_isSound K (k + 1) 283 L st S = (O_iadd) (nx (cod_L_isSound N xs) cut_L_isSound K k) 283 L st S) ∧
  (∀ (K : Kt LT) (k : Nat) (L : xL) (st : List Value) (S : LT), nx (cod_L_isSound N xs) cut_L_isSound K (k + 1) 284 L st S = (O_aload 0 1) (nx (cod_L_isSound N xs) cut_L_isSound K k) 284 L st S) ∧
  (∀ (K : Kt LT) (k : Nat) (L : xL) (st : List Value) (S : LT), nx (cod_L_isSound N xs) cut_L_isSound K (k + 1) 285 L st S = (O_int 3 1) (nx (cod_L_isSound N xs) cut_L_isSound K k) 285 L st S) ∧
  (∀ (K : Kt LT) (k : Nat) (L : xL) (st : List Value) (S : LT), nx (cod_L_isSound N xs) cut_L_isSound K (k + 1) 286 L st S = (O_callV 1 0 (fun S : LT => S.1) (fun S F => (F, S.2)) (spG yX6_station cX6_station 2 (some .int) 3 fpW)) (nx (cod_L_isSound N xs) cut_L_isSound K k) 286 L st S) ∧
  (∀ (K : Kt LT) (k : Nat) (L : xL) (st : List Value) (S : LT), nx (cod_L_isSound N xs) cut_L_isSound K (k + 1) 289 L st S = (O_icmp_gt 296) (nx (cod_L_isSound N xs) cut_L_isSound K k) 289 L st S) ∧
  (∀ (K : Kt LT) (k : Nat) (L : xL) (st : List Value) (S : LT), nx (cod_L_isSound N xs) cut_L_isSound K (k + 1) 292 L st S = (O_int 1 1) (nx (cod_L_isSound N xs) cut_L_isSound K k) 292 L st S) ∧
  (∀ (K : Kt LT) (k : Nat) (L : xL) (st : List Value) (S : LT), nx (cod_L_isSound N xs) cut_L_isSound K (k + 1) 293 L st S = (O_goto 297) (nx (cod_L_isSound N xs) cut_L_isSound K k) 293 L st S) ∧
  (∀ (K : Kt LT) (k : Nat) (L : xL) (st : List Value) (S : LT), nx (cod_L_isSound N xs) cut_L_isSound K (k + 1) 296 L st S = (O_int 0 1) (nx (cod_L_isSound N xs) cut_L_isSound K k) 296 L st S) ∧
  (∀ (K : Kt LT) (k : Nat) (L : xL) (st : List Value) (S : LT), nx (cod_L_isSound N xs) cut_L_isSound K (k + 1) 297 L st S = (O_zret) (nx (cod_L_isSound N xs) cut_L_isSound K k) 297 L st S) ∧
  (∀ (K : Kt LT) (k : Nat) (L : xL) (st : List Value) (S : LT), nx (cod_L_isSound N xs) cut_L_isSound K (k + 1) 100000 L st S = K 100000 L st S) := by
  repeat' apply And.intro
  all_goals (intros; rfl)
set_option maxRecDepth 100000 in
theorem mk_L_isSound {N : Nat} {xs : Nat → Int32} {P P' : LT} {r : Option Value}  (body : ∀ E : En, CodOk E lW (cod_L_isSound N xs) → Gd E lW 100000 [] r.toList P' → Gd E lW 0 [some (.ref 0), none, none, none, none, none, none] [] P) : ConT N xs yL_isSound cL_isSound 7 (some .boolean) 4 lW [.ref 0] P r P' :=
  ConT.of (by decide) ((lW_len P').trans (lW_len P).symm) rfl (Nat.le_of_ble_eq_true rfl) (fun E F G Z hr => body E (okc_L_isSound F G Z) hr)
theorem add_int {x y : Int32} {a b : Int} (hx : rng x 0 a) (hy : rng y 0 b) (h : a + b < 2147483648) : (x + y).toInt = x.toInt + y.toInt := by
  obtain ⟨h1, h2⟩ := hx
  obtain ⟨h3, h4⟩ := hy
  rw [Int32.toInt_add]
  exact Int.bmod_eq_of_le (by omega) (by omega)
theorem mul_div {x y : Int32} {a b d : Nat} (hx : rng x 0 a) (hy : rng y 0 b) (hd : 0 < d) (hd2 : d < 1000000) (h : a * b < 2147483648) : rng (x * y / nI d) 0 ((a * b / d : Nat) : Int) := by
  obtain ⟨n, e1, h1, h2⟩ := rng_nI hx (by decide)
  obtain ⟨m, e2, h3, h4⟩ := rng_nI hy (by decide)
  have hm : n * m ≤ a * b := Nat.mul_le_mul (by omega) (by omega)
  have hq : n * m / d ≤ a * b / d := Nat.div_le_div_right hm
  have hl : n * m / d ≤ n * m := Nat.div_le_self _ _
  rw [e1, e2, pk_mul, pk_div (by omega) hd (by omega)]
  unfold rng
  rw [nI_toInt (by omega)]
  exact ⟨Int.natCast_nonneg _, Int.ofNat_le.mpr hq⟩
theorem takes_rng {Z Y : ZT} (h : zs Z Y) {p : Int32} (hp : rng p 0 2000) {j : Nat} (hj : j < 3) : rng (Z.takes j p) 0 5000 := by
  unfold ZT.takes
  split
  · exact ⟨by decide, by decide⟩
  · have h1 := h.2.2.2.1 j hj
    exact mul_div (a := 1000) (b := 2000) (d := 400) (rng_mono h1 (by decide) (Int.le_refl _)) hp (by decide) (by decide) (by decide)
section
variable {k : Nat} {F G : FT}
theorem tw_sum (h : Tw k F G) : ¬ F.now.demand < F.now.Z.takes 0 F.now.pressure + F.now.Z.takes 1 F.now.pressure + F.now.Z.takes 2 F.now.pressure := by
  obtain ⟨-, -, i, s, z, t, Y, e, hz, hY⟩ := h
  have hp := i.2.2.2.2.2.1
  have t0 := takes_rng hz hp (j := 0) (by decide)
  have t1 := takes_rng hz hp (j := 1) (by decide)
  have t2 := takes_rng hz hp (j := 2) (by decide)
  have hl : rng (F.now.leak * F.now.pressure / 1000) 0 2000 := mul_div (a := 1000) (b := 2000) (d := 1000) s.2.1 hp (by decide) (by decide) (by decide)
  have a1 := add_rng t0 t1 (by decide) (by decide)
  have a2 := add_rng a1 t2 (by decide) (by decide)
  have a3 := add_int (a := 15000) (b := 2000) (rng_mono a2 (by decide) (by decide)) hl (by decide)
  unfold ST.demand
  rw [ZT.taken3 hz.1.1, Int32.zero_add, Int32.lt_iff_toInt_lt, a3]
  have := hl.1
  omega
theorem tw_n (h : Tw k F G) : F.now.P.n = 3 := by
  unfold PT.n
  rw [h.2.2.2.2.1]
  rfl
theorem of_eq : (∀ (S : PT) (p : Nat) (pr i : Int32), S.of p pr 0 i = S.kinds p) ∧ (∀ (S : PT) (p : Nat) (pr i : Int32), S.of p pr 3 i = if S.inService p = 0 then 0 else 1) ∧ (∀ (S : PT) (p : Nat) (pr i : Int32), S.of p pr 4 i = S.speeds p) ∧ (∀ (S : PT) (p : Nat) (pr i : Int32), S.of p pr 5 i = bI (decide (S.vrb = i))) ∧ (∀ (S : PT) (p : Nat) (pr i : Int32), S.of p pr 6 i = S.minutes p) ∧ (∀ (S : PT) (p : Nat) (pr i : Int32), S.of p pr 7 i = S.since p) := ⟨fun _ _ _ _ => rfl, fun _ _ _ _ => rfl, fun _ _ _ _ => rfl, fun _ _ _ _ => rfl, fun _ _ _ _ => rfl, fun _ _ _ _ => rfl⟩
theorem tw_pu (h : Tw k F G) {i : Nat} (hi : i < 3) (w : Int32) : Con yX6_pumpOf cX6_pumpOf 4 (some .int) 2 fpW [.ref 0, .int (nI i), .int w] F (some (.int (F.now.P.of i F.now.pressure w (nI i)))) F := by
  have h1 := con_X6_pumpOf F (nI i) w h.1
  have hI := h.2.2.1.1
  have hi2 : i < F.now.P.n := by rw [tw_n h]; exact hi
  rw [PT.n_has hI.1 hi2, if_neg (by decide), (ixs hI.1 hi2).2.1] at h1
  exact h1
theorem tw_pv (h : Tw k F G) {i : Nat} (hi : i < 3) : b01 (F.now.P.inService i) ∧ (if F.now.P.inService i = 0 then (0 : Int32) else 1) = F.now.P.inService i := by
  have hi2 : i < F.now.P.n := by rw [tw_n h]; exact hi
  have hb := (h.2.2.1.1.2.1 i hi2).2.2.2.1
  exact ⟨hb, (is1 hb).1⟩
def ST.var (S : ST) : Int32 := if S.P.vrb = -1 then -1000004 else S.P.vrb
theorem tw_var (h : Tw k F G) {i : Nat} (hi : i < 3) : (nI i = F.now.var) ↔ F.now.P.vrb = nI i := by
  have hI := h.2.2.1.1
  have hi2 : i < F.now.P.n := by rw [tw_n h]; exact hi
  unfold ST.var
  by_cases c : F.now.P.vrb = -1
  · rw [if_pos c, c]
    refine ⟨fun z => ?_, fun z => absurd z.symm (ixs hI.1 hi2).2.2.2.2.2⟩
    have e := congrArg Int32.toInt z
    rw [nI_toInt (by omega)] at e
    have : (-1000004 : Int32).toInt = -1000004 := by decide
    omega
  · rw [if_neg c]
    exact ⟨fun z => z.symm, fun z => z.symm⟩
theorem sd_it {E : En} {N : Nat} {xs : Nat → Int32} (C : CodOk E lW (cod_L_isSound N xs)) (h : Tw k F G) {i : Nat} (hi : i < 3) (m r : Int32) (l6 : Option Value) (kk : Gd E lW 83 [some (.ref 0), some (.int (m + bI (F.now.P.run i))), some (.int (r + bI (F.now.P.rdy i))), some (.int F.now.var), some (.int 1), some (.int (nI (i + 1))), some (.int (F.now.P.speeds i))] [] (F, G)) : Gd E lW 83 [some (.ref 0), some (.int m), some (.int r), some (.int F.now.var), some (.int 1), some (.int (nI i)), l6] [] (F, G) := by
  have hi2 : i < F.now.P.n := by rw [tw_n h]; exact hi
  have hrow := h.2.2.1.1.2.1 i hi2
  have hsnd := h.2.2.2.1.1 i hi2
  have hpv := tw_pv h hi
  have hvar := tw_var h hi
  have p4 := tw_pu h hi 4
  have p3 := tw_pu h hi 3
  have p5 := tw_pu h hi 5
  have p6 := tw_pu h hi 6
  have p7 := tw_pu h hi 7
  rw [of_eq.2.2.1] at p4
  rw [of_eq.2.1, hpv.2] at p3
  rw [of_eq.2.2.2.1] at p5
  rw [of_eq.2.2.2.2.1] at p6
  rw [of_eq.2.2.2.2.2] at p7
  have hle : ¬ F.now.P.minutes i < F.now.P.since i := by
    rw [Int32.lt_iff_toInt_lt]
    have := hsnd.2.2.2.2.2.1
    omega
  have hpos : 0 < F.now.P.speeds i ↔ ¬ F.now.P.speeds i = 0 := by
    refine ⟨pos_ne, fun z => ?_⟩
    rw [Int32.lt_iff_toInt_lt, iz.1]
    have h1 := hrow.2.2.1.1
    have h2 : F.now.P.speeds i ≠ 0 := z
    have h3 : (F.now.P.speeds i).toInt ≠ 0 := fun q => h2 (Int32.toInt_inj.mp (by rw [q]; rfl))
    omega
  have hs1 := hsnd.2.1
  have hs2 := hsnd.2.2.1
  generalize hb : F.now.P.inService i = b at p3 hpv hs1
  generalize hs : F.now.P.speeds i = sp at p4 hpos hs1 hs2 kk
  have hrun : bI (F.now.P.run i) = if 0 < sp then 1 else 0 := by
    unfold PT.run
    rw [hs]
    by_cases c : 0 < sp
    · rw [if_pos c, decide_eq_true c]; rfl
    · rw [if_neg c, decide_eq_false c]; rfl
  have hrdy : bI (F.now.P.rdy i) = if ¬ b = 0 ∧ sp = 0 then 1 else 0 := by
    unfold PT.rdy
    rw [hs, hb]
    by_cases c : ¬ b = 0 ∧ sp = 0
    · rw [if_pos c, decide_eq_true c]; rfl
    · rw [if_neg c, decide_eq_false c]; rfl
  have h175 : Gd E lW 175 [some (.ref 0), some (.int (m + bI (F.now.P.run i))), some (.int (r + bI (F.now.P.rdy i))), some (.int F.now.var), some (.int 1), some (.int (nI i)), some (.int sp)] [] (F, G) := by
    clear hrun hrdy
    generalize F.now.var = var at *
    generalize bI (F.now.P.run i) = q1 at *
    generalize bI (F.now.P.rdy i) = q2 at *
    by_cases c : F.now.P.vrb = nI i
    · have e5 : bI (decide (F.now.P.vrb = nI i)) = 1 := by rw [decide_eq_true c]; rfl
      rw [e5] at p5
      (refine nx1_ok C cut_L_isSound 1000 ?_; simp only [w_L_isSound, ops_eq, xst_eq, call_eq, oK_eq, Option.toList_some, Option.toList_none, List.cons_append, List.nil_append, List.length_cons, List.length_nil, true_and, and_true, Nat.reduceAdd, O_g_eq, O_s_eq, O_t_eq, O_z2, spG_eq, se_L_up, l_eq, z_eq, false_implies, true_implies, implies_true, not_true_eq_false, not_false_eq_true, Nat.reduceLeDiff, Nat.zero_le, nI_1])
      exact ⟨1, F, p5, fun z => absurd (hvar.mpr c) z, fun _ => ⟨fun z => absurd rfl z, fun _ => ⟨_, F, p7, _, F, p6, fun z => absurd z hle, fun _ => kk⟩⟩⟩
    · have e5 : bI (decide (F.now.P.vrb = nI i)) = 0 := by rw [decide_eq_false c]; rfl
      rw [e5] at p5
      (refine nx1_ok C cut_L_isSound 1000 ?_; simp only [w_L_isSound, ops_eq, xst_eq, call_eq, oK_eq, Option.toList_some, Option.toList_none, List.cons_append, List.nil_append, List.length_cons, List.length_nil, true_and, and_true, Nat.reduceAdd, O_g_eq, O_s_eq, O_t_eq, O_z2, spG_eq, se_L_up, l_eq, z_eq, false_implies, true_implies, implies_true, not_true_eq_false, not_false_eq_true, Nat.reduceLeDiff, Nat.zero_le, nI_1])
      exact ⟨0, F, p5, fun _ => ⟨fun z => absurd rfl z, fun _ => ⟨_, F, p7, _, F, p6, fun z => absurd z hle, fun _ => kk⟩⟩, fun z => absurd (hvar.mp z) c⟩
  have h156 : Gd E lW 156 [some (.ref 0), some (.int (m + bI (F.now.P.run i))), some (.int (r + bI (F.now.P.rdy i))), some (.int F.now.var), some (.int 1), some (.int (nI i)), some (.int sp)] [] (F, G) := by
    (refine nx1_ok C cut_L_isSound 1000 ?_; simp only [w_L_isSound, ops_eq, xst_eq, call_eq, oK_eq, Option.toList_some, Option.toList_none, List.cons_append, List.nil_append, List.length_cons, List.length_nil, true_and, and_true, Nat.reduceAdd, O_g_eq, O_s_eq, O_t_eq, O_z2, spG_eq, se_L_up, l_eq, z_eq, false_implies, true_implies, implies_true, not_true_eq_false, not_false_eq_true, Nat.reduceLeDiff, Nat.zero_le])
    refine ⟨fun _ => h175, fun z => ⟨fun _ => h175, fun z2 => ⟨fun z3 => ?_, fun _ => h175⟩⟩⟩
    rcases hs2 with a | a | a
    · exact absurd a z
    · exact absurd a z2
    · exact absurd (hvar.mpr a) z3
  have h135 : Gd E lW 135 [some (.ref 0), some (.int (m + bI (F.now.P.run i))), some (.int (r + bI (F.now.P.rdy i))), some (.int F.now.var), some (.int 1), some (.int (nI i)), some (.int sp)] [] (F, G) := by
    (refine nx1_ok C cut_L_isSound 1000 ?_; simp only [w_L_isSound, ops_eq, xst_eq, call_eq, oK_eq, Option.toList_some, Option.toList_none, List.cons_append, List.nil_append, List.length_cons, List.length_nil, true_and, and_true, Nat.reduceAdd, O_g_eq, O_s_eq, O_t_eq, O_z2, spG_eq, se_L_up, l_eq, z_eq, false_implies, true_implies, implies_true, not_true_eq_false, not_false_eq_true, Nat.reduceLeDiff, Nat.zero_le])
    exact ⟨fun _ => h156, fun z => ⟨b, F, p3, fun z2 => absurd (hs1.resolve_left z) z2, fun _ => h156⟩⟩
  have h135' : ∀ v : Int32, v = bI (F.now.P.rdy i) → Gd E lW 135 [some (.ref 0), some (.int (m + bI (F.now.P.run i))), some (.int (r + v)), some (.int F.now.var), some (.int 1), some (.int (nI i)), some (.int sp)] [] (F, G) := fun v e => by
    rw [e]
    exact h135
  have h111 : Gd E lW 111 [some (.ref 0), some (.int (m + bI (F.now.P.run i))), some (.int r), some (.int F.now.var), some (.int 1), some (.int (nI i)), some (.int sp)] [] (F, G) := by
    clear h135 h156 h175
    (refine nx1_ok C cut_L_isSound 1000 ?_; simp only [w_L_isSound, ops_eq, xst_eq, call_eq, oK_eq, Option.toList_some, Option.toList_none, List.cons_append, List.nil_append, List.length_cons, List.length_nil, true_and, and_true, Nat.reduceAdd, O_g_eq, O_s_eq, O_t_eq, O_z2, spG_eq, se_L_up, l_eq, z_eq, false_implies, true_implies, implies_true, not_true_eq_false, not_false_eq_true, Nat.reduceLeDiff, Nat.zero_le])
    exact ⟨fun z => h135' 0 (by rw [hrdy, if_neg (fun q => z q.2)]), fun z => ⟨b, F, p3, fun z2 => h135' 0 (by rw [hrdy, if_neg (fun q => hpv.1.elim (fun w => q.1 w) (fun w => z2 w))]), fun z2 => h135' 1 (by rw [hrdy, if_pos ⟨fun w => absurd (w.symm.trans z2) (by decide), z⟩])⟩⟩
  have h111' : ∀ v : Int32, v = bI (F.now.P.run i) → Gd E lW 111 [some (.ref 0), some (.int (m + v)), some (.int r), some (.int F.now.var), some (.int 1), some (.int (nI i)), some (.int sp)] [] (F, G) := fun v e => by
    rw [e]
    exact h111
  have h98 : Gd E lW 98 [some (.ref 0), some (.int m), some (.int r), some (.int F.now.var), some (.int 1), some (.int (nI i)), some (.int sp)] [] (F, G) := by
    clear h135 h156 h175 h111 h135'
    (refine nx1_ok C cut_L_isSound 1000 ?_; simp only [w_L_isSound, ops_eq, xst_eq, call_eq, oK_eq, Option.toList_some, Option.toList_none, List.cons_append, List.nil_append, List.length_cons, List.length_nil, true_and, and_true, Nat.reduceAdd, O_g_eq, O_s_eq, O_t_eq, O_z2, spG_eq, se_L_up, l_eq, z_eq, false_implies, true_implies, implies_true, not_true_eq_false, not_false_eq_true, Nat.reduceLeDiff, Nat.zero_le])
    exact ⟨fun z => h111' 0 (by rw [hrun, if_neg z]), fun z => h111' 1 (by rw [hrun, if_pos z])⟩
  have hx : nI i < (3 : Int32) := by
    rw [show (3 : Int32) = nI 3 from rfl, lt_n (by omega) i (by omega)]
    omega
  (refine nx1_ok C cut_L_isSound 1000 ?_; simp only [w_L_isSound, ops_eq, xst_eq, call_eq, oK_eq, Option.toList_some, Option.toList_none, List.cons_append, List.nil_append, List.length_cons, List.length_nil, true_and, and_true, Nat.reduceAdd, O_g_eq, O_s_eq, O_t_eq, O_z2, spG_eq, se_L_up, l_eq, z_eq, false_implies, true_implies, implies_true, not_true_eq_false, not_false_eq_true, Nat.reduceLeDiff, Nat.zero_le, hx])
  exact ⟨sp, F, p4, h98⟩
theorem tw_zo (h : Tw k F G) {j : Nat} (hj : j < 3) : Con yX6_zoneOf cX6_zoneOf 4 (some .int) 1 fpW [.ref 0, .int (nI j), .int 2] F (some (.int (F.now.Z.takes j F.now.pressure))) F := by
  have h1 := con_X6_zoneOf F (nI j) 2 h.1
  obtain ⟨-, -, i, s, z, t, Y, e, hz, hY⟩ := h
  obtain ⟨a1, a2, a3, a4⟩ := ZT.has3 hz.1.1 hj
  rw [a1, if_neg (by decide), a3] at h1
  exact h1
theorem sd_end {E : En} {N : Nat} {xs : Nat → Int32} (C : CodOk E lW (cod_L_isSound N xs)) (h : Tw k F G) (hr : Gd E lW 100000 [] [.int 1] (F, G)) (l5 l6 : Option Value) : Gd E lW 228 [some (.ref 0), some (.int F.now.P.running), some (.int F.now.P.readyOnes), some (.int F.now.var), some (.int 1), l5, l6] [] (F, G) := by
  have z0 : Con yX6_zoneOf cX6_zoneOf 4 (some .int) 1 fpW [.ref 0, .int 0, .int 2] F (some (.int (F.now.Z.takes 0 F.now.pressure))) F := tw_zo h (j := 0) (by decide)
  have z1 : Con yX6_zoneOf cX6_zoneOf 4 (some .int) 1 fpW [.ref 0, .int 1, .int 2] F (some (.int (F.now.Z.takes 1 F.now.pressure))) F := tw_zo h (j := 1) (by decide)
  have z2 : Con yX6_zoneOf cX6_zoneOf 4 (some .int) 1 fpW [.ref 0, .int 2, .int 2] F (some (.int (F.now.Z.takes 2 F.now.pressure))) F := tw_zo h (j := 2) (by decide)
  have s3 : Con yX6_station cX6_station 2 (some .int) 3 fpW [.ref 0, .int 3] F (some (.int F.now.demand)) F := con_X6_station F 3 h.1
  have s5 : Con yX6_station cX6_station 2 (some .int) 3 fpW [.ref 0, .int 5] F (some (.int F.now.P.running)) F := con_X6_station F 5 h.1
  have s6 : Con yX6_station cX6_station 2 (some .int) 3 fpW [.ref 0, .int 6] F (some (.int (if F.now.dry = 0 then 0 else 1))) F := con_X6_station F 6 h.1
  have c4 : Con yX6_count cX6_count 2 (some .int) 2 fpW [.ref 0, .int 4] F (some (.int F.now.P.readyOnes)) F := con_X6_count F 4 h.1
  have hsum := tw_sum h
  have h264 : Gd E lW 264 [some (.ref 0), some (.int F.now.P.running), some (.int F.now.P.readyOnes), some (.int F.now.var), some (.int 1), l5, l6] [] (F, G) := by
    (refine nx1_ok C cut_L_isSound 1000 ?_; simp only [w_L_isSound, ops_eq, xst_eq, call_eq, oK_eq, Option.toList_some, Option.toList_none, List.cons_append, List.nil_append, List.length_cons, List.length_nil, true_and, and_true, Nat.reduceAdd, O_g_eq, O_s_eq, O_t_eq, O_z2, spG_eq, se_L_up, l_eq, z_eq, false_implies, true_implies, implies_true, not_true_eq_false, not_false_eq_true, Nat.reduceLeDiff, Nat.zero_le])
    exact ⟨_, F, z0, _, F, z1, _, F, z2, _, F, s3, fun z => absurd z hsum, fun _ => hr⟩
  have hdry : ¬ (if F.now.dry = 0 then (0 : Int32) else 1) = 0 → F.now.P.running = 0 := fun q => by
    have hd : ¬ F.now.dry = 0 := fun z => q (by rw [if_pos z])
    have h0 := h.2.2.2.1.2.2 hd
    have key := it_inv (f := fun p r => r + bI (F.now.P.run p)) (a := (0 : Int32)) (n := F.now.P.n) (fun _ r => r = 0) rfl (fun i r hi e => by
      have e2 : F.now.P.run i = false := by
        unfold PT.run
        rw [h0 i hi]
        decide
      rw [e, e2]
      rfl)
    exact key
  (refine nx1_ok C cut_L_isSound 1000 ?_; simp only [w_L_isSound, ops_eq, xst_eq, call_eq, oK_eq, Option.toList_some, Option.toList_none, List.cons_append, List.nil_append, List.length_cons, List.length_nil, true_and, and_true, Nat.reduceAdd, O_g_eq, O_s_eq, O_t_eq, O_z2, spG_eq, se_L_up, l_eq, z_eq, false_implies, true_implies, implies_true, not_true_eq_false, not_false_eq_true, Nat.reduceLeDiff, Nat.zero_le])
  exact ⟨_, F, s5, fun z => absurd rfl z, fun _ => ⟨_, F, c4, fun z => absurd rfl z, fun _ => ⟨_, F, s6, fun _ => h264, fun z => ⟨fun z2 => absurd (hdry z) z2, fun _ => h264⟩⟩⟩⟩
theorem con_L_isSound {N : Nat} {xs : Nat → Int32} (h : Tw k F G) : ConT N xs yL_isSound cL_isSound 7 (some .boolean) 4 lW [.ref 0] (F, G) (some (.int 1)) (F, G) := by
  refine mk_L_isSound (fun E C hr => ?_)
  simp only [Option.toList_some] at hr
  have hI := h.2.2.1
  have s0 : Con yX6_station cX6_station 2 (some .int) 3 fpW [.ref 0, .int 0] F (some (.int F.now.pressure)) F := con_X6_station F 0 h.1
  have s1 : Con yX6_station cX6_station 2 (some .int) 3 fpW [.ref 0, .int 1] F (some (.int F.now.level)) F := con_X6_station F 1 h.1
  have s4 : Con yX6_station cX6_station 2 (some .int) 3 fpW [.ref 0, .int 4] F (some (.int F.now.var)) F := con_X6_station F 4 h.1
  have q0 : ¬ F.now.pressure < 0 := by
    rw [Int32.lt_iff_toInt_lt, iz.1]
    have := hI.2.2.2.2.2.1.1
    omega
  have q1 : ¬ 2000 < F.now.pressure := by
    rw [Int32.lt_iff_toInt_lt, iz.2.2.2.2.1]
    have := hI.2.2.2.2.2.1.2
    omega
  have q2 : ¬ F.now.level < 0 := by
    rw [Int32.lt_iff_toInt_lt, iz.1]
    have := hI.2.2.2.2.2.2.1.1
    omega
  have q3 : ¬ 20000 < F.now.level := by
    rw [Int32.lt_iff_toInt_lt, iz.2.2.2.2.2.1]
    have := hI.2.2.2.2.2.2.1.2
    omega
  have hn := tw_n h
  have it3 : ∀ g : Nat → Bool, it (fun p r => r + bI (g p)) (0 : Int32) 3 = 0 + bI (g 0) + bI (g 1) + bI (g 2) := fun g => rfl
  have er : F.now.P.running = 0 + bI (F.now.P.run 0) + bI (F.now.P.run 1) + bI (F.now.P.run 2) := by
    unfold PT.running
    rw [hn]
    exact it3 F.now.P.run
  have ey : F.now.P.readyOnes = 0 + bI (F.now.P.rdy 0) + bI (F.now.P.rdy 1) + bI (F.now.P.rdy 2) := by
    unfold PT.readyOnes
    rw [hn]
    exact it3 F.now.P.rdy
  have h228 := sd_end C h hr (some (.int (nI 3))) (some (.int (F.now.P.speeds 2)))
  rw [er, ey] at h228
  have h83c : Gd E lW 83 [some (.ref 0), some (.int (0 + bI (F.now.P.run 0) + bI (F.now.P.run 1) + bI (F.now.P.run 2))), some (.int (0 + bI (F.now.P.rdy 0) + bI (F.now.P.rdy 1) + bI (F.now.P.rdy 2))), some (.int F.now.var), some (.int 1), some (.int (nI 3)), some (.int (F.now.P.speeds 2))] [] (F, G) := by
    have hx : ¬ nI 3 < (3 : Int32) := by decide
    (refine nx1_ok C cut_L_isSound 1000 ?_; simp only [w_L_isSound, ops_eq, xst_eq, call_eq, oK_eq, Option.toList_some, Option.toList_none, List.cons_append, List.nil_append, List.length_cons, List.length_nil, true_and, and_true, Nat.reduceAdd, O_g_eq, O_s_eq, O_t_eq, O_z2, spG_eq, se_L_up, l_eq, z_eq, false_implies, true_implies, implies_true, not_true_eq_false, not_false_eq_true, Nat.reduceLeDiff, Nat.zero_le, hx])
    exact h228
  have h83b := sd_it C h (i := 2) (by decide) _ _ (some (.int (F.now.P.speeds 1))) h83c
  have h83a := sd_it C h (i := 1) (by decide) _ _ (some (.int (F.now.P.speeds 0))) h83b
  have h83 := sd_it C h (i := 0) (by decide) _ _ none h83a
  rw [nI_0] at h83
  have h73 : Gd E lW 73 [some (.ref 0), some (.int 0), some (.int 0), some (.int F.now.var), none, none, none] [] (F, G) := by
    (refine nx1_ok C cut_L_isSound 1000 ?_; simp only [w_L_isSound, ops_eq, xst_eq, call_eq, oK_eq, Option.toList_some, Option.toList_none, List.cons_append, List.nil_append, List.length_cons, List.length_nil, true_and, and_true, Nat.reduceAdd, O_g_eq, O_s_eq, O_t_eq, O_z2, spG_eq, se_L_up, l_eq, z_eq, false_implies, true_implies, implies_true, not_true_eq_false, not_false_eq_true, Nat.reduceLeDiff, Nat.zero_le])
    exact h83
  have hv : ¬ F.now.var < 0 → ∃ v : Nat, v < 3 ∧ F.now.var = nI v ∧ 0 < F.now.P.kinds v ∧ ¬ F.now.P.speeds v < 300 := fun q => by
    unfold ST.var at q ⊢
    by_cases c : F.now.P.vrb = -1
    · rw [if_pos c] at q
      exact absurd (by decide) q
    · rw [if_neg c]
      rcases hI.1.2.2.2 with a | ⟨v, v1, v2, v3, v4⟩
      · exact absurd a c
      · have hs := h.2.2.2.1.1 v v1
        refine ⟨v, by rw [← hn]; exact v1, v2, ?_, ?_⟩
        · rw [Int32.lt_iff_toInt_lt, iz.1]
          have k1 := hs.1.1
          have k2 : (F.now.P.kinds v).toInt ≠ 0 := fun z => v4 (Int32.toInt_inj.mp (by rw [z]; rfl))
          omega
        · rw [Int32.lt_iff_toInt_lt]
          have k1 := (hs.2.2.2.1 v2).1
          have k2 : (300 : Int32).toInt = 300 := rfl
          omega
  have fin : (F.now.var < 0 → Gd E lW 73 [some (.ref 0), some (.int 0), some (.int 0), some (.int F.now.var), none, none, none] [] (F, G)) := fun _ => h73
  (refine nx_ok C (cuts := cut_L_isSound) 1000 _ _ _ _ ?_; simp only [w_L_isSound, ops_eq, xst_eq, call_eq, oK_eq, Option.toList_some, Option.toList_none, List.cons_append, List.nil_append, List.length_cons, List.length_nil, true_and, and_true, Nat.reduceAdd, O_g_eq, O_s_eq, O_t_eq, O_z2, spG_eq, se_L_up, l_eq, z_eq, false_implies, true_implies, implies_true, not_true_eq_false, not_false_eq_true, Nat.reduceLeDiff, Nat.zero_le])
  refine ⟨_, F, s4, _, F, s0, fun z => absurd z q0, fun _ => ⟨_, F, s0, fun z => absurd z q1, fun _ => ⟨_, F, s1, fun z => absurd z q2, fun _ => ⟨_, F, s1, fun z => absurd z q3, fun _ => ⟨fun _ => h73, fun z => ?_⟩⟩⟩⟩⟩
  obtain ⟨v, v1, v2, v3, v4⟩ := hv z
  have p0 := tw_pu h v1 0
  have p4 := tw_pu h v1 4
  rw [of_eq.1, ← v2] at p0
  rw [of_eq.2.2.1, ← v2] at p4
  exact ⟨_, F, p0, fun z => absurd v3 z, fun _ => ⟨_, F, p4, fun z => absurd z v4, fun _ => h73⟩⟩
end
