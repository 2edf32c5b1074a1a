/-! ===== the law's isStep ===== -/
def cod_L_isStep (N : Nat) (xs : Nat → Int32) : List (Nat × Op LT) := [(0, O_iload 2 1), (1, O_int 4 1), (2, O_ishr), (3, O_istore 3 1), (4, O_iload 2 1), (5, O_int 9 2), (7, O_callS 2 sp_L_up), (10, O_switch [(0, 48), (1, 93), (2, 124), (3, 167), (4, 198), (5, 215)] 303), (48, O_iload 3 1), (49, O_int 3 1), (50, O_callS 2 sp_L_up), (53, O_istore 4 2), (55, O_int 1 1), (56, O_aload 0 1), (57, O_iload 4 2), (59, O_int 1 1), (60, O_callV 2 0 (fun S : LT => S.1) (fun S F => (F, S.2)) (spG yX6_zoneOf cX6_zoneOf 4 (some .int) 1 fpW)), (63, O_isub), (64, O_istore 5 2), (66, O_aload 0 1), (67, O_iload 4 2), (69, O_iload 5 2), (71, O_callV 2 0 (fun S : LT => S.1) (fun S F => (F, S.2)) (spG yX6_open cX6_open 4 (some .int) 4 fpW)), (74, O_aload 1 1), (75, O_int 2 1), (76, O_iload 4 2), (78, O_isub), (79, O_iload 5 2), (81, O_callV 2 148 (fun S : LT => S.2) (fun S G => (S.1, G)) (spG yX6_open cX6_open 4 (some .int) 4 fpW)), (84, O_icmp_ne 91), (87, O_int 1 1), (88, O_goto 92), (91, O_int 0 1), (92, O_zret), (93, O_aload 0 1), (94, O_iload 3 1), (95, O_int 200 3), (98, O_callS 2 sp_L_up), (101, O_callV 1 0 (fun S : LT => S.1) (fun S F => (F, S.2)) (spG yX6_leak cX6_leak 3 (some .int) 4 fpW)), (104, O_aload 1 1), (105, O_iload 3 1), (106, O_int 200 3), (109, O_callS 2 sp_L_up), (112, O_callV 1 148 (fun S : LT => S.2) (fun S G => (S.1, G)) (spG yX6_leak cX6_leak 3 (some .int) 4 fpW)), (115, O_icmp_ne 122), (118, O_int 1 1), (119, O_goto 123), (122, O_int 0 1), (123, O_zret), (124, O_iload 3 1), (125, O_int 3 1), (126, O_callS 2 sp_L_up), (129, O_istore 4 2), (131, O_int 1 1), (132, O_aload 0 1), (133, O_iload 4 2), (135, O_int 3 1), (136, O_callV 2 0 (fun S : LT => S.1) (fun S F => (F, S.2)) (spG yX6_pumpOf cX6_pumpOf 4 (some .int) 2 fpW)), (139, O_isub), (140, O_istore 5 2), (142, O_aload 0 1), (143, O_iload 4 2), (145, O_iload 5 2), (147, O_callV 2 0 (fun S : LT => S.1) (fun S F => (F, S.2)) (spG yX6_service cX6_service 4 (some .int) 4 fpW)), (150, O_aload 1 1), (151, O_iload 4 2), (153, O_iload 5 2), (155, O_callV 2 148 (fun S : LT => S.2) (fun S G => (S.1, G)) (spG yX6_service cX6_service 4 (some .int) 4 fpW)), (158, O_icmp_ne 165), (161, O_int 1 1), (162, O_goto 166), (165, O_int 0 1), (166, O_zret), (167, O_aload 0 1), (168, O_iload 3 1), (169, O_int 20001 3), (172, O_callS 2 sp_L_up), (175, O_callV 1 0 (fun S : LT => S.1) (fun S F => (F, S.2)) (spG yX6_fill cX6_fill 3 (some .int) 4 fpW)), (178, O_aload 1 1), (179, O_iload 3 1), (180, O_int 20001 3), (183, O_callS 2 sp_L_up), (186, O_callV 1 148 (fun S : LT => S.2) (fun S G => (S.1, G)) (spG yX6_fill cX6_fill 3 (some .int) 4 fpW)), (189, O_icmp_ne 196), (192, O_int 1 1), (193, O_goto 197), (196, O_int 0 1), (197, O_zret), (198, O_aload 0 1), (199, O_callV 0 0 (fun S : LT => S.1) (fun S F => (F, S.2)) (spG yX6_reset cX6_reset 2 (some .int) 4 fpW)), (202, O_aload 1 1), (203, O_callV 0 148 (fun S : LT => S.2) (fun S G => (S.1, G)) (spG yX6_reset cX6_reset 2 (some .int) 4 fpW)), (206, O_icmp_ne 213), (209, O_int 1 1), (210, O_goto 214), (213, O_int 0 1), (214, O_zret), (215, O_iload 3 1), (216, O_int 10 2), (218, O_callS 2 sp_L_up), (221, O_istore 4 2), (223, O_iload 4 2), (225, O_if_ne 244), (228, O_int 200 3), (231, O_iload 3 1), (232, O_int 4 1), (233, O_ishr), (234, O_int 500 3), (237, O_callS 2 sp_L_up), (240, O_iadd), (241, O_goto 276), (244, O_iload 4 2), (246, O_int 4 1), (247, O_icmp_ne 266), (250, O_int 300 3), (253, O_iload 3 1), (254, O_int 4 1), (255, O_ishr), (256, O_int 600 3), (259, O_callS 2 sp_L_up), (262, O_iadd), (263, O_goto 276), (266, O_int 1 1), (267, O_iload 3 1), (268, O_int 4 1), (269, O_ishr), (270, O_int 50 2), (272, O_callS 2 sp_L_up), (275, O_iadd), (276, O_istore 5 2), (278, O_aload 0 1), (279, O_iload 4 2), (281, O_iload 5 2), (283, O_callZ 2 0 yX6_set cX6_set 4 (some .int) 4 fpW (fun S : LT => S.1) (fun S F => (F, S.2))), (286, O_aload 1 1), (287, O_iload 4 2), (289, O_iload 5 2), (291, O_callZ 2 148 yX6_set cX6_set 4 (some .int) 4 fpW (fun S : LT => S.2) (fun S G => (S.1, G))), (294, O_icmp_ne 301), (297, O_int 1 1), (298, O_goto 302), (301, O_int 0 1), (302, O_zret), (303, O_aload 0 1), (304, O_int 1 1), (305, O_iload 3 1), (306, O_int 50 2), (308, O_callS 2 sp_L_up), (311, O_iadd), (312, O_callV 1 0 (fun S : LT => S.1) (fun S F => (F, S.2)) (spG yX6_pass cX6_pass 3 (some .int) 5 fpW)), (315, O_aload 1 1), (316, O_int 1 1), (317, O_iload 3 1), (318, O_int 50 2), (320, O_callS 2 sp_L_up), (323, O_iadd), (324, O_callV 1 148 (fun S : LT => S.2) (fun S G => (S.1, G)) (spG yX6_pass cX6_pass 3 (some .int) 5 fpW)), (327, O_icmp_ne 334), (330, O_int 1 1), (331, O_goto 335), (334, O_int 0 1), (335, O_zret)]
abbrev cut_L_isStep : List Nat := [48, 93, 124, 167, 198, 215, 276, 303]
set_option maxRecDepth 100000 in
theorem okc_L_isStep {E : En} {N : Nat} {xs : Nat → Int32} (F : Fx E RL cL_isStep 6 6) (G : Fr E (some .boolean)) (Z : LZ N xs E) : CodOk E lW (cod_L_isStep N xs) := by
  unfold CodOk cod_L_isStep
  refine List.forall_mem_cons.mpr ⟨ok_iload_n F dL_isStep_0 rfl (by decide), ?_⟩
  refine List.forall_mem_cons.mpr ⟨ok_iconst F dL_isStep_1 (by decide) (by decide), ?_⟩
  refine List.forall_mem_cons.mpr ⟨ok_ishr F dL_isStep_2 (by decide), ?_⟩
  refine List.forall_mem_cons.mpr ⟨ok_istore_n F dL_isStep_3 rfl (by decide) (by decide), ?_⟩
  refine List.forall_mem_cons.mpr ⟨ok_iload_n F dL_isStep_4 rfl (by decide), ?_⟩
  refine List.forall_mem_cons.mpr ⟨ok_bipush F dL_isStep_5 (by decide) (by decide), ?_⟩
  refine List.forall_mem_cons.mpr ⟨ok_callS F spok_L_up (by decide +kernel) rfl (by decide) dL_isStep_7 (by decide), ?_⟩
  refine List.forall_mem_cons.mpr ⟨ok_table F dL_isStep_10 (by decide +kernel) (by decide), ?_⟩
  refine List.forall_mem_cons.mpr ⟨ok_iload_n F dL_isStep_48 rfl (by decide), ?_⟩
  refine List.forall_mem_cons.mpr ⟨ok_iconst F dL_isStep_49 (by decide) (by decide), ?_⟩
  refine List.forall_mem_cons.mpr ⟨ok_callS F spok_L_up (by decide +kernel) rfl (by decide) dL_isStep_50 (by decide), ?_⟩
  refine List.forall_mem_cons.mpr ⟨ok_istore F dL_isStep_53 (by decide) (by decide), ?_⟩
  refine List.forall_mem_cons.mpr ⟨ok_iconst F dL_isStep_55 (by decide) (by decide), ?_⟩
  refine List.forall_mem_cons.mpr ⟨ok_aload_n F dL_isStep_56 rfl (by decide), ?_⟩
  refine List.forall_mem_cons.mpr ⟨ok_iload F dL_isStep_57 (by decide), ?_⟩
  refine List.forall_mem_cons.mpr ⟨ok_iconst F dL_isStep_59 (by decide) (by decide), ?_⟩
  refine List.forall_mem_cons.mpr ⟨ok_callV F (spG_ok yX6_zoneOf cX6_zoneOf 4 (some .int) 1 fpW) ln_lw_F rcv_fpW (by decide +kernel) (by decide) dL_isStep_60 (by decide), ?_⟩
  refine List.forall_mem_cons.mpr ⟨ok_isub F dL_isStep_63 (by decide), ?_⟩
  refine List.forall_mem_cons.mpr ⟨ok_istore F dL_isStep_64 (by decide) (by decide), ?_⟩
  refine List.forall_mem_cons.mpr ⟨ok_aload_n F dL_isStep_66 rfl (by decide), ?_⟩
  refine List.forall_mem_cons.mpr ⟨ok_iload F dL_isStep_67 (by decide), ?_⟩
  refine List.forall_mem_cons.mpr ⟨ok_iload F dL_isStep_69 (by decide), ?_⟩
  refine List.forall_mem_cons.mpr ⟨ok_callV F (spG_ok yX6_open cX6_open 4 (some .int) 4 fpW) ln_lw_F rcv_fpW (by decide +kernel) (by decide) dL_isStep_71 (by decide), ?_⟩
  refine List.forall_mem_cons.mpr ⟨ok_aload_n F dL_isStep_74 rfl (by decide), ?_⟩
  refine List.forall_mem_cons.mpr ⟨ok_iconst F dL_isStep_75 (by decide) (by decide), ?_⟩
  refine List.forall_mem_cons.mpr ⟨ok_iload F dL_isStep_76 (by decide), ?_⟩
  refine List.forall_mem_cons.mpr ⟨ok_isub F dL_isStep_78 (by decide), ?_⟩
  refine List.forall_mem_cons.mpr ⟨ok_iload F dL_isStep_79 (by decide), ?_⟩
  refine List.forall_mem_cons.mpr ⟨ok_callV F (spG_ok yX6_open cX6_open 4 (some .int) 4 fpW) ln_lw_G rcv_fpW (by decide +kernel) (by decide) dL_isStep_81 (by decide), ?_⟩
  refine List.forall_mem_cons.mpr ⟨ok_icmp_ne F dL_isStep_84 (by decide) (by decide) (by decide), ?_⟩
  refine List.forall_mem_cons.mpr ⟨ok_iconst F dL_isStep_87 (by decide) (by decide), ?_⟩
  refine List.forall_mem_cons.mpr ⟨ok_goto F dL_isStep_88 (by decide) (by decide) (by decide), ?_⟩
  refine List.forall_mem_cons.mpr ⟨ok_iconst F dL_isStep_91 (by decide) (by decide), ?_⟩
  refine List.forall_mem_cons.mpr ⟨ok_zret F G dL_isStep_92 (by decide), ?_⟩
  refine List.forall_mem_cons.mpr ⟨ok_aload_n F dL_isStep_93 rfl (by decide), ?_⟩
  refine List.forall_mem_cons.mpr ⟨ok_iload_n F dL_isStep_94 rfl (by decide), ?_⟩
  refine List.forall_mem_cons.mpr ⟨ok_sipush F dL_isStep_95 (by decide) (by decide), ?_⟩
  refine List.forall_mem_cons.mpr ⟨ok_callS F spok_L_up (by decide +kernel) rfl (by decide) dL_isStep_98 (by decide), ?_⟩
  refine List.forall_mem_cons.mpr ⟨ok_callV F (spG_ok yX6_leak cX6_leak 3 (some .int) 4 fpW) ln_lw_F rcv_fpW (by decide +kernel) (by decide) dL_isStep_101 (by decide), ?_⟩
  refine List.forall_mem_cons.mpr ⟨ok_aload_n F dL_isStep_104 rfl (by decide), ?_⟩
  refine List.forall_mem_cons.mpr ⟨ok_iload_n F dL_isStep_105 rfl (by decide), ?_⟩
  refine List.forall_mem_cons.mpr ⟨ok_sipush F dL_isStep_106 (by decide) (by decide), ?_⟩
  refine List.forall_mem_cons.mpr ⟨ok_callS F spok_L_up (by decide +kernel) rfl (by decide) dL_isStep_109 (by decide), ?_⟩
  refine List.forall_mem_cons.mpr ⟨ok_callV F (spG_ok yX6_leak cX6_leak 3 (some .int) 4 fpW) ln_lw_G rcv_fpW (by decide +kernel) (by decide) dL_isStep_112 (by decide), ?_⟩
  refine List.forall_mem_cons.mpr ⟨ok_icmp_ne F dL_isStep_115 (by decide) (by decide) (by decide), ?_⟩
  refine List.forall_mem_cons.mpr ⟨ok_iconst F dL_isStep_118 (by decide) (by decide), ?_⟩
  refine List.forall_mem_cons.mpr ⟨ok_goto F dL_isStep_119 (by decide) (by decide) (by decide), ?_⟩
  refine List.forall_mem_cons.mpr ⟨ok_iconst F dL_isStep_122 (by decide) (by decide), ?_⟩
  refine List.forall_mem_cons.mpr ⟨ok_zret F G dL_isStep_123 (by decide), ?_⟩
  refine List.forall_mem_cons.mpr ⟨ok_iload_n F dL_isStep_124 rfl (by decide), ?_⟩
  refine List.forall_mem_cons.mpr ⟨ok_iconst F dL_isStep_125 (by decide) (by decide), ?_⟩
  refine List.forall_mem_cons.mpr ⟨ok_callS F spok_L_up (by decide +kernel) rfl (by decide) dL_isStep_126 (by decide), ?_⟩
  refine List.forall_mem_cons.mpr ⟨ok_istore F dL_isStep_129 (by decide) (by decide), ?_⟩
  refine List.forall_mem_cons.mpr ⟨ok_iconst F dL_isStep_131 (by decide) (by decide), ?_⟩
  refine List.forall_mem_cons.mpr ⟨ok_aload_n F dL_isStep_132 rfl (by decide), ?_⟩
  refine List.forall_mem_cons.mpr ⟨ok_iload F dL_isStep_133 (by decide), ?_⟩
  refine List.forall_mem_cons.mpr ⟨ok_iconst F dL_isStep_135 (by decide) (by decide), ?_⟩
  refine List.forall_mem_cons.mpr ⟨ok_callV F (spG_ok yX6_pumpOf cX6_pumpOf 4 (some .int) 2 fpW) ln_lw_F rcv_fpW (by decide +kernel) (by decide) dL_isStep_136 (by decide), ?_⟩
  refine List.forall_mem_cons.mpr ⟨ok_isub F dL_isStep_139 (by decide), ?_⟩
  refine List.forall_mem_cons.mpr ⟨ok_istore F dL_isStep_140 (by decide) (by decide), ?_⟩
  refine List.forall_mem_cons.mpr ⟨ok_aload_n F dL_isStep_142 rfl (by decide), ?_⟩
  refine List.forall_mem_cons.mpr ⟨ok_iload F dL_isStep_143 (by decide), ?_⟩
  refine List.forall_mem_cons.mpr ⟨ok_iload F dL_isStep_145 (by decide), ?_⟩
  refine List.forall_mem_cons.mpr ⟨ok_callV F (spG_ok yX6_service cX6_service 4 (some .int) 4 fpW) ln_lw_F rcv_fpW (by decide +kernel) (by decide) dL_isStep_147 (by decide), ?_⟩
  refine List.forall_mem_cons.mpr ⟨ok_aload_n F dL_isStep_150 rfl (by decide), ?_⟩
  refine List.forall_mem_cons.mpr ⟨ok_iload F dL_isStep_151 (by decide), ?_⟩
  refine List.forall_mem_cons.mpr ⟨ok_iload F dL_isStep_153 (by decide), ?_⟩
  refine List.forall_mem_cons.mpr ⟨ok_callV F (spG_ok yX6_service cX6_service 4 (some .int) 4 fpW) ln_lw_G rcv_fpW (by decide +kernel) (by decide) dL_isStep_155 (by decide), ?_⟩
  refine List.forall_mem_cons.mpr ⟨ok_icmp_ne F dL_isStep_158 (by decide) (by decide) (by decide), ?_⟩
  refine List.forall_mem_cons.mpr ⟨ok_iconst F dL_isStep_161 (by decide) (by decide), ?_⟩
  refine List.forall_mem_cons.mpr ⟨ok_goto F dL_isStep_162 (by decide) (by decide) (by decide), ?_⟩
  refine List.forall_mem_cons.mpr ⟨ok_iconst F dL_isStep_165 (by decide) (by decide), ?_⟩
  refine List.forall_mem_cons.mpr ⟨ok_zret F G dL_isStep_166 (by decide), ?_⟩
  refine List.forall_mem_cons.mpr ⟨ok_aload_n F dL_isStep_167 rfl (by decide), ?_⟩
  refine List.forall_mem_cons.mpr ⟨ok_iload_n F dL_isStep_168 rfl (by decide), ?_⟩
  refine List.forall_mem_cons.mpr ⟨ok_sipush F dL_isStep_169 (by decide) (by decide), ?_⟩
  refine List.forall_mem_cons.mpr ⟨ok_callS F spok_L_up (by decide +kernel) rfl (by decide) dL_isStep_172 (by decide), ?_⟩
  refine List.forall_mem_cons.mpr ⟨ok_callV F (spG_ok yX6_fill cX6_fill 3 (some .int) 4 fpW) ln_lw_F rcv_fpW (by decide +kernel) (by decide) dL_isStep_175 (by decide), ?_⟩
  refine List.forall_mem_cons.mpr ⟨ok_aload_n F dL_isStep_178 rfl (by decide), ?_⟩
  refine List.forall_mem_cons.mpr ⟨ok_iload_n F dL_isStep_179 rfl (by decide), ?_⟩
  refine List.forall_mem_cons.mpr ⟨ok_sipush F dL_isStep_180 (by decide) (by decide), ?_⟩
  refine List.forall_mem_cons.mpr ⟨ok_callS F spok_L_up (by decide +kernel) rfl (by decide) dL_isStep_183 (by decide), ?_⟩
  refine List.forall_mem_cons.mpr ⟨ok_callV F (spG_ok yX6_fill cX6_fill 3 (some .int) 4 fpW) ln_lw_G rcv_fpW (by decide +kernel) (by decide) dL_isStep_186 (by decide), ?_⟩
  refine List.forall_mem_cons.mpr ⟨ok_icmp_ne F dL_isStep_189 (by decide) (by decide) (by decide), ?_⟩
  refine List.forall_mem_cons.mpr ⟨ok_iconst F dL_isStep_192 (by decide) (by decide), ?_⟩
  refine List.forall_mem_cons.mpr ⟨ok_goto F dL_isStep_193 (by decide) (by decide) (by decide), ?_⟩
  refine List.forall_mem_cons.mpr ⟨ok_iconst F dL_isStep_196 (by decide) (by decide), ?_⟩
  refine List.forall_mem_cons.mpr ⟨ok_zret F G dL_isStep_197 (by decide), ?_⟩
  refine List.forall_mem_cons.mpr ⟨ok_aload_n F dL_isStep_198 rfl (by decide), ?_⟩
  refine List.forall_mem_cons.mpr ⟨ok_callV F (spG_ok yX6_reset cX6_reset 2 (some .int) 4 fpW) ln_lw_F rcv_fpW (by decide +kernel) (by decide) dL_isStep_199 (by decide), ?_⟩
  refine List.forall_mem_cons.mpr ⟨ok_aload_n F dL_isStep_202 rfl (by decide), ?_⟩
  refine List.forall_mem_cons.mpr ⟨ok_callV F (spG_ok yX6_reset cX6_reset 2 (some .int) 4 fpW) ln_lw_G rcv_fpW (by decide +kernel) (by decide) dL_isStep_203 (by decide), ?_⟩
  refine List.forall_mem_cons.mpr ⟨ok_icmp_ne F dL_isStep_206 (by decide) (by decide) (by decide), ?_⟩
  refine List.forall_mem_cons.mpr ⟨ok_iconst F dL_isStep_209 (by decide) (by decide), ?_⟩
  refine List.forall_mem_cons.mpr ⟨ok_goto F dL_isStep_210 (by decide) (by decide) (by decide), ?_⟩
  refine List.forall_mem_cons.mpr ⟨ok_iconst F dL_isStep_213 (by decide) (by decide), ?_⟩
  refine List.forall_mem_cons.mpr ⟨ok_zret F G dL_isStep_214 (by decide), ?_⟩
  refine List.forall_mem_cons.mpr ⟨ok_iload_n F dL_isStep_215 rfl (by decide), ?_⟩
  refine List.forall_mem_cons.mpr ⟨ok_bipush F dL_isStep_216 (by decide) (by decide), ?_⟩
  refine List.forall_mem_cons.mpr ⟨ok_callS F spok_L_up (by decide +kernel) rfl (by decide) dL_isStep_218 (by decide), ?_⟩
  refine List.forall_mem_cons.mpr ⟨ok_istore F dL_isStep_221 (by decide) (by decide), ?_⟩
  refine List.forall_mem_cons.mpr ⟨ok_iload F dL_isStep_223 (by decide), ?_⟩
  refine List.forall_mem_cons.mpr ⟨ok_if_ne F dL_isStep_225 (by decide) (by decide) (by decide), ?_⟩
  refine List.forall_mem_cons.mpr ⟨ok_sipush F dL_isStep_228 (by decide) (by decide), ?_⟩
  refine List.forall_mem_cons.mpr ⟨ok_iload_n F dL_isStep_231 rfl (by decide), ?_⟩
  refine List.forall_mem_cons.mpr ⟨ok_iconst F dL_isStep_232 (by decide) (by decide), ?_⟩
  refine List.forall_mem_cons.mpr ⟨ok_ishr F dL_isStep_233 (by decide), ?_⟩
  refine List.forall_mem_cons.mpr ⟨ok_sipush F dL_isStep_234 (by decide) (by decide), ?_⟩
  refine List.forall_mem_cons.mpr ⟨ok_callS F spok_L_up (by decide +kernel) rfl (by decide) dL_isStep_237 (by decide), ?_⟩
  refine List.forall_mem_cons.mpr ⟨ok_iadd F dL_isStep_240 (by decide), ?_⟩
  refine List.forall_mem_cons.mpr ⟨ok_goto F dL_isStep_241 (by decide) (by decide) (by decide), ?_⟩
  refine List.forall_mem_cons.mpr ⟨ok_iload F dL_isStep_244 (by decide), ?_⟩
  refine List.forall_mem_cons.mpr ⟨ok_iconst F dL_isStep_246 (by decide) (by decide), ?_⟩
  refine List.forall_mem_cons.mpr ⟨ok_icmp_ne F dL_isStep_247 (by decide) (by decide) (by decide), ?_⟩
  refine List.forall_mem_cons.mpr ⟨ok_sipush F dL_isStep_250 (by decide) (by decide), ?_⟩
  refine List.forall_mem_cons.mpr ⟨ok_iload_n F dL_isStep_253 rfl (by decide), ?_⟩
  refine List.forall_mem_cons.mpr ⟨ok_iconst F dL_isStep_254 (by decide) (by decide), ?_⟩
  refine List.forall_mem_cons.mpr ⟨ok_ishr F dL_isStep_255 (by decide), ?_⟩
  refine List.forall_mem_cons.mpr ⟨ok_sipush F dL_isStep_256 (by decide) (by decide), ?_⟩
  refine List.forall_mem_cons.mpr ⟨ok_callS F spok_L_up (by decide +kernel) rfl (by decide) dL_isStep_259 (by decide), ?_⟩
  refine List.forall_mem_cons.mpr ⟨ok_iadd F dL_isStep_262 (by decide), ?_⟩
  refine List.forall_mem_cons.mpr ⟨ok_goto F dL_isStep_263 (by decide) (by decide) (by decide), ?_⟩
  refine List.forall_mem_cons.mpr ⟨ok_iconst F dL_isStep_266 (by decide) (by decide), ?_⟩
  refine List.forall_mem_cons.mpr ⟨ok_iload_n F dL_isStep_267 rfl (by decide), ?_⟩
  refine List.forall_mem_cons.mpr ⟨ok_iconst F dL_isStep_268 (by decide) (by decide), ?_⟩
  refine List.forall_mem_cons.mpr ⟨ok_ishr F dL_isStep_269 (by decide), ?_⟩
  refine List.forall_mem_cons.mpr ⟨ok_bipush F dL_isStep_270 (by decide) (by decide), ?_⟩
  refine List.forall_mem_cons.mpr ⟨ok_callS F spok_L_up (by decide +kernel) rfl (by decide) dL_isStep_272 (by decide), ?_⟩
  refine List.forall_mem_cons.mpr ⟨ok_iadd F dL_isStep_275 (by decide), ?_⟩
  refine List.forall_mem_cons.mpr ⟨ok_istore F dL_isStep_276 (by decide) (by decide), ?_⟩
  refine List.forall_mem_cons.mpr ⟨ok_aload_n F dL_isStep_278 rfl (by decide), ?_⟩
  refine List.forall_mem_cons.mpr ⟨ok_iload F dL_isStep_279 (by decide), ?_⟩
  refine List.forall_mem_cons.mpr ⟨ok_iload F dL_isStep_281 (by decide), ?_⟩
  refine List.forall_mem_cons.mpr ⟨ok_callZ F Z.1 ln_lw_F rcv_fpW (by decide +kernel) (by decide) dL_isStep_283 (by decide), ?_⟩
  refine List.forall_mem_cons.mpr ⟨ok_aload_n F dL_isStep_286 rfl (by decide), ?_⟩
  refine List.forall_mem_cons.mpr ⟨ok_iload F dL_isStep_287 (by decide), ?_⟩
  refine List.forall_mem_cons.mpr ⟨ok_iload F dL_isStep_289 (by decide), ?_⟩
  refine List.forall_mem_cons.mpr ⟨ok_callZ F Z.2.1 ln_lw_G rcv_fpW (by decide +kernel) (by decide) dL_isStep_291 (by decide), ?_⟩
  refine List.forall_mem_cons.mpr ⟨ok_icmp_ne F dL_isStep_294 (by decide) (by decide) (by decide), ?_⟩
  refine List.forall_mem_cons.mpr ⟨ok_iconst F dL_isStep_297 (by decide) (by decide), ?_⟩
  refine List.forall_mem_cons.mpr ⟨ok_goto F dL_isStep_298 (by decide) (by decide) (by decide), ?_⟩
  refine List.forall_mem_cons.mpr ⟨ok_iconst F dL_isStep_301 (by decide) (by decide), ?_⟩
  refine List.forall_mem_cons.mpr ⟨ok_zret F G dL_isStep_302 (by decide), ?_⟩
  refine List.forall_mem_cons.mpr ⟨ok_aload_n F dL_isStep_303 rfl (by decide), ?_⟩
  refine List.forall_mem_cons.mpr ⟨ok_iconst F dL_isStep_304 (by decide) (by decide), ?_⟩
  refine List.forall_mem_cons.mpr ⟨ok_iload_n F dL_isStep_305 rfl (by decide), ?_⟩
  refine List.forall_mem_cons.mpr ⟨ok_bipush F dL_isStep_306 (by decide) (by decide), ?_⟩
  refine List.forall_mem_cons.mpr ⟨ok_callS F spok_L_up (by decide +kernel) rfl (by decide) dL_isStep_308 (by decide), ?_⟩
  refine List.forall_mem_cons.mpr ⟨ok_iadd F dL_isStep_311 (by decide), ?_⟩
  refine List.forall_mem_cons.mpr ⟨ok_callV F (spG_ok yX6_pass cX6_pass 3 (some .int) 5 fpW) ln_lw_F rcv_fpW (by decide +kernel) (by decide) dL_isStep_312 (by decide), ?_⟩
  refine List.forall_mem_cons.mpr ⟨ok_aload_n F dL_isStep_315 rfl (by decide), ?_⟩
  refine List.forall_mem_cons.mpr ⟨ok_iconst F dL_isStep_316 (by decide) (by decide), ?_⟩
  refine List.forall_mem_cons.mpr ⟨ok_iload_n F dL_isStep_317 rfl (by decide), ?_⟩
  refine List.forall_mem_cons.mpr ⟨ok_bipush F dL_isStep_318 (by decide) (by decide), ?_⟩
  refine List.forall_mem_cons.mpr ⟨ok_callS F spok_L_up (by decide +kernel) rfl (by decide) dL_isStep_320 (by decide), ?_⟩
  refine List.forall_mem_cons.mpr ⟨ok_iadd F dL_isStep_323 (by decide), ?_⟩
  refine List.forall_mem_cons.mpr ⟨ok_callV F (spG_ok yX6_pass cX6_pass 3 (some .int) 5 fpW) ln_lw_G rcv_fpW (by decide +kernel) (by decide) dL_isStep_324 (by decide), ?_⟩
  refine List.forall_mem_cons.mpr ⟨ok_icmp_ne F dL_isStep_327 (by decide) (by decide) (by decide), ?_⟩
  refine List.forall_mem_cons.mpr ⟨ok_iconst F dL_isStep_330 (by decide) (by decide), ?_⟩
  refine List.forall_mem_cons.mpr ⟨ok_goto F dL_isStep_331 (by decide) (by decide) (by decide), ?_⟩
  refine List.forall_mem_cons.mpr ⟨ok_iconst F dL_isStep_334 (by decide) (by decide), ?_⟩
  refine List.forall_mem_cons.mpr ⟨ok_zret F G dL_isStep_335 (by decide), ?_⟩
  exact fun _ h => absurd h List.not_mem_nil
set_option maxRecDepth 100000 in
theorem w_L_isStep (N : Nat) (xs : Nat → Int32) : (∀ (K : Kt LT) (k : Nat) (L : xL) (st : List Value) (S : LT), nx (cod_L_isStep N xs) cut_L_isStep K (k + 1) 0 L st S = (O_iload 2 1) (nx (cod_L_isStep N xs) cut_L_isStep K k) 0 L st S) ∧
  (∀ (K : Kt LT) (k : Nat) (L : xL) (st : List Value) (S : LT), nx (cod_L_isStep N xs) cut_L_isStep K (k + 1) 1 L st S = (O_int 4 1) (nx (cod_L_isStep N xs) cut_L_isStep K k) 1 L st S) ∧
  (∀ (K : Kt LT) (k : Nat) (L : xL) (st : List Value) (S : LT), nx (cod_L_isStep N xs) cut_L_isStep K (k + 1) 2 L st S = (O_ishr) (nx (cod_L_isStep N xs) cut_L_isStep K k) 2 L st S) ∧
  (∀ (K : Kt LT) (k : Nat) (L : xL) (st : List Value) (S : LT), nx (cod_L_isStep N xs) cut_L_isStep K (k + 1) 3 L st S = (O_istore 3 1) (nx (cod_L_isStep N xs) cut_L_isStep K k) 3 L st S) ∧
  (∀ (K : Kt LT) (k : Nat) (L : xL) (st : List Value) (S : LT), nx (cod_L_isStep N xs) cut_L_isStep K (k + 1) 4 L st S = (O_iload 2 1) (nx (cod_L_isStep N xs) cut_L_isStep K k) 4 L st S) ∧
  (∀ (K : Kt LT) (k : Nat) (L : xL) (st : List Value) (S : LT), nx (cod_L_isStep N xs) cut_L_isStep K (k + 1) 5 L st S = (O_int 9 2) (nx (cod_L_isStep N xs) cut_L_isStep K k) 5 L st S) ∧
  (∀ (K : Kt LT) (k : Nat) (L : xL) (st : List Value) (S : LT), nx (cod_L_isStep N xs) cut_L_isStep K (k + 1) 7 L st S = (O_callS 2 sp_L_up) (nx (cod_L_isStep N xs) cut_L_isStep K k) 7 L st S) ∧
  (∀ (K : Kt LT) (k : Nat) (L : xL) (st : List Value) (S : LT), nx (cod_L_isStep N xs) cut_L_isStep K (k + 1) 10 L st S = (O_switch [(0, 48), (1, 93), (2, 124), (3, 167), (4, 198), (5, 215)] 303) (nx (cod_L_isStep N xs) cut_L_isStep K k) 10 L st S) ∧
  (∀ (K : Kt LT) (k : Nat) (L : xL) (st : List Value) (S : LT), nx (cod_L_isStep N xs) cut_L_isStep K (k + 1) 48 L st S = K 48 L st S) ∧
  (∀ (K : Kt LT) (k : Nat) (L : xL) (st : List Value) (S : LT), nx1 (cod_L_isStep N xs) cut_L_isStep K k 48 L st S = (O_iload 3 1) (nx (cod_L_isStep N xs) cut_L_isStep K k) 48 L st S) ∧
  (∀ (K : Kt LT) (k : Nat) (L : xL) (st : List Value) (S : LT), nx (cod_L_isStep N xs) cut_L_isStep K (k + 1) 49 L st S = (O_int 3 1) (nx (cod_L_isStep N xs) cut_L_isStep K k) 49 L st S) ∧
  (∀ (K : Kt LT) (k : Nat) (L : xL) (st : List Value) (S : LT), nx (cod_L_isStep N xs) cut_L_isStep K (k + 1) 50 L st S = (O_callS 2 sp_L_up) (nx (cod_L_isStep N xs) cut_L_isStep K k) 50 L st S) ∧
  (∀ (K : Kt LT) (k : Nat) (L : xL) (st : List Value) (S : LT), nx (cod_L_isStep N xs) cut_L_isStep K (k + 1) 53 L st S = (O_istore 4 2) (nx (cod_L_isStep N xs) cut_L_isStep K k) 53 L st S) ∧
  (∀ (K : Kt LT) (k : Nat) (L : xL) (st : List Value) (S : LT), nx (cod_L_isStep N xs) cut_L_isStep K (k + 1) 55 L st S = (O_int 1 1) (nx (cod_L_isStep N xs) cut_L_isStep K k) 55 L st S) ∧
  (∀ (K : Kt LT) (k : Nat) (L : xL) (st : List Value) (S : LT), nx (cod_L_isStep N xs) cut_L_isStep K (k + 1) 56 L st S = (O_aload 0 1) (nx (cod_L_isStep N xs) cut_L_isStep K k) 56 L st S) ∧
  (∀ (K : Kt LT) (k : Nat) (L : xL) (st : List Value) (S : LT), nx (cod_L_isStep N xs) cut_L_isStep K (k + 1) 57 L st S = (O_iload 4 2) (nx (cod_L_isStep N xs) cut_L_isStep K k) 57 L st S) ∧
  (∀ (K : Kt LT) (k : Nat) (L : xL) (st : List Value) (S : LT), nx (cod_L_isStep N xs) cut_L_isStep K (k + 1) 59 L st S = (O_int 1 1) (nx (cod_L_isStep N xs) cut_L_isStep K k) 59 L st S) ∧
  (∀ (K : Kt LT) (k : Nat) (L : xL) (st : List Value) (S : LT), nx (cod_L_isStep N xs) cut_L_isStep K (k + 1) 60 L st S = (O_callV 2 0 (fun S : LT => S.1) (fun S F => (F, S.2)) (spG yX6_zoneOf cX6_zoneOf 4 (some .int) 1 fpW)) (nx (cod_L_isStep N xs) cut_L_isStep K k) 60 L st S) ∧
  (∀ (K : Kt LT) (k : Nat) (L : xL) (st : List Value) (S : LT), nx (cod_L_isStep N xs) cut_L_isStep K (k + 1) 63 L st S = (O_isub) (nx (cod_L_isStep N xs) cut_L_isStep K k) 63 L st S) ∧
  (∀ (K : Kt LT) (k : Nat) (L : xL) (st : List Value) (S : LT), nx (cod_L_isStep N xs) cut_L_isStep K (k + 1) 64 L st S = (O_istore 5 2) (nx (cod_L_isStep N xs) cut_L_isStep K k) 64 L st S) ∧
  (∀ (K : Kt LT) (k : Nat) (L : xL) (st : List Value) (S : LT), nx (cod_L_isStep N xs) cut_L_isStep K (k + 1) 66 L st S = (O_aload 0 1) (nx (cod_L_isStep N xs) cut_L_isStep K k) 66 L st S) ∧
  (∀ (K : Kt LT) (k : Nat) (L : xL) (st : List Value) (S : LT), nx (cod_L_isStep N xs) cut_L_isStep K (k + 1) 67 L st S = (O_iload 4 2) (nx (cod_L_isStep N xs) cut_L_isStep K k) 67 L st S) ∧
  (∀ (K : Kt LT) (k : Nat) (L : xL) (st : List Value) (S : LT), nx (cod_L_isStep N xs) cut_L_isStep K (k + 1) 69 L st S = (O_iload 5 2) (nx (cod_L_isStep N xs) cut_L_isStep K k) 69 L st S) ∧
  (∀ (K : Kt LT) (k : Nat) (L : xL) (st : List Value) (S : LT), nx (cod_L_isStep N xs) cut_L_isStep K (k + 1) 71 L st S = (O_callV 2 0 (fun S : LT => S.1) (fun S F => (F, S.2)) (spG yX6_open cX6_open 4 (some .int) 4 fpW)) (nx (cod_L_isStep N xs) cut_L_isStep K k) 71 L st S) ∧
  (∀ (K : Kt LT) (k : Nat) (L : xL) (st : List Value) (S : LT), nx (cod_L_isStep N xs) cut_L_isStep K (k + 1) 74 L st S = (O_aload 1 1) (nx (cod_L_isStep N xs) cut_L_isStep K k) 74 L st S) ∧
  (∀ (K : Kt LT) (k : Nat) (L : xL) (st : List Value) (S : LT), nx (cod_L_isStep N xs) cut_L_isStep K (k + 1) 75 L st S = (O_int 2 1) (nx (cod_L_isStep N xs) cut_L_isStep K k) 75 L st S) ∧
  (∀ (K : Kt LT) (k : Nat) (L : xL) (st : List Value) (S : LT), nx (cod_L_isStep N xs) cut_L_isStep K (k + 1) 76 L st S = (O_iload 4 2) (nx (cod_L_isStep N xs) cut_L_isStep K k) 76 L st S) ∧
  (∀ (K : Kt LT) (k : Nat) (L : xL) (st : List Value) (S : LT), nx (cod_L_isStep N xs) cut_L_isStep K (k + 1) 78 L st S = (O_isub) (nx (cod_L_isStep N xs) cut_L_isStep K k) 78 L st S) ∧
  (∀ (K : Kt LT) (k : Nat) (L : xL) (st : List Value) (S : LT), nx (cod_L_isStep N xs) cut_L_isStep K (k + 1) 79 L st S = (O_iload 5 2) (nx (cod_L_isStep N xs) cut_L_isStep K k) 79 L st S) ∧
  (∀ (K : Kt LT) (k : Nat) (L : xL) (st : List Value) (S : LT), nx (cod_L_isStep N xs) cut_L_isStep K (k + 1) 81 L st S = (O_callV 2 148 (fun S : LT => S.2) (fun S G => (S.1, G)) (spG yX6_open cX6_open 4 (some .int) 4 fpW)) (nx (cod_L_isStep N xs) cut_L_isStep K k) 81 L st S) ∧
  (∀ (K : Kt LT) (k : Nat) (L : xL) (st : List Value) (S : LT), nx (cod_L_isStep N xs) cut_L_isStep K (k + 1) 84 L st S = (O_icmp_ne 91) (nx (cod_L_isStep N xs) cut_L_isStep K k) 84 L st S) ∧
  (∀ (K : Kt LT) (k : Nat) (L : xL) (st : List Value) (S : LT), nx (cod_L_isStep N xs) cut_L_isStep K (k + 1) 87 L st S = (O_int 1 1) (nx (cod_L_isStep N xs) cut_L_isStep K k) 87 L st S) ∧
  (∀ (K : Kt LT) (k : Nat) (L : xL) (st : List Value) (S : LT), nx (cod_L_isStep N xs) cut_L_isStep K (k + 1) 88 L st S = (O_goto 92) (nx (cod_L_isStep N xs) cut_L_isStep K k) 88 L st S) ∧
  (∀ (K : Kt LT) (k : Nat) (L : xL) (st : List Value) (S : LT), nx (cod_L_isStep N xs) cut_L_isStep K (k + 1) 91 L st S = (O_int 0 1) (nx (cod_L_isStep N xs) cut_L_isStep K k) 91 L st S) ∧
  (∀ (K : Kt LT) (k : Nat) (L : xL) (st : List Value) (S : LT), nx (cod_L_isStep N xs) cut_L_isStep K (k + 1) 92 L st S = (O_zret) (nx (cod_L_isStep N xs) cut_L_isStep K k) 92 L st S) ∧
  (∀ (K : Kt LT) (k : Nat) (L : xL) (st : List Value) (S : LT), nx (cod_L_isStep N xs) cut_L_isStep K (k + 1) 93 L st S = K 93 L st S) ∧
  (∀ (K : Kt LT) (k : Nat) (L : xL) (st : List Value) (S : LT), nx1 (cod_L_isStep N xs) cut_L_isStep K k 93 L st S = (O_aload 0 1) (nx (cod_L_isStep N xs) cut_L_isStep K k) 93 L st S) ∧
  (∀ (K : Kt LT) (k : Nat) (L : xL) (st : List Value) (S : LT), nx (cod_L_isStep N xs) cut_L_isStep K (k + 1) 94 L st S = (O_iload 3 1) (nx (cod_L_isStep N xs) cut_L_isStep K k) 94 L st S) ∧
  (∀ (K : Kt LT) (k : Nat) (L : xL) (st : List Value) (S : LT), nx (cod_L_isStep N xs) cut_L_isStep K (k + 1) 95 L st S = (O_int 200 3) (nx (cod_L_isStep N xs) cut_L_isStep K k) 95 L st S) ∧
  (∀ (K : Kt LT) (k : Nat) (L : xL) (st : List Value) (S : LT), nx (cod_L_isStep N xs) cut_L_isStep K (k + 1) 98 L st S = (O_callS 2 sp_L_up) (nx (cod_L_isStep N xs) cut_L_isStep K k) 98 L st S) ∧
  (∀ (K : Kt LT) (k : Nat) (L : xL) (st : List Value) (S : LT), nx (cod_L_isStep N xs) cut_L_isStep K (k + 1) 101 L st S = (O_callV 1 0 (fun S : LT => S.1) (fun S F => (F, S.2)) (spG yX6_leak cX6_leak 3 (some .int) 4 fpW)) (nx (cod_L_isStep N xs) cut_L_isStep K k) 101 L st S) ∧
  (∀ (K : Kt LT) (k : Nat) (L : xL) (st : List Value) (S : LT), nx (cod_L_isStep N xs) cut_L_isStep K (k + 1) 104 L st S = (O_aload 1 1) (nx (cod_L_isStep N xs) cut_L_isStep K k) 104 L st S) ∧
  (∀ (K : Kt LT) (k : Nat) (L : xL) (st : List Value) (S : LT), nx (cod_L_isStep N xs) cut_L_isStep K (k + 1) 105 L st S = (O_iload 3 1) (nx (cod_L_isStep N xs) cut_L_isStep K k) 105 L st S) ∧
  (∀ (K : Kt LT) (k : Nat) (L : xL) (st : List Value) (S : LT), nx (cod_L_isStep N xs) cut_L_isStep K (k + 1) 106 L st S = (O_int 200 3) (nx (cod_L_isStep N xs) cut_L_isStep K k) 106 L st S) ∧
  (∀ (K : Kt LT) (k : Nat) (L : xL) (st : List Value) (S : LT), nx (cod_L_isStep N xs) cut_L_isStep K (k + 1) 109 L st S = (O_callS 2 sp_L_up) (nx (cod_L_isStep N xs) cut_L_isStep K k) 109 L st S) ∧
  (∀ (K : Kt LT) (k : Nat) (L : xL) (st : List Value) (S : LT), nx (cod_L_isStep N xs) cut_L_isStep K (k + 1) 112 L st S = (O_callV 1 148 (fun S : LT => S.2) (fun S G => (S.1, G)) (spG yX6_leak cX6_leak 3 (some .int) 4 fpW)) (nx (cod_L_isStep N xs) cut_L_isStep K k) 112 L st S) ∧
  (∀ (K : Kt LT) (k : Nat) (L : xL) (st : List Value) (S : LT), nx (cod_L_isStep N xs) cut_L_isStep K (k + 1) 115 L st S = (O_icmp_ne 122) (nx (cod_L_isStep N xs) cut_L_isStep K k) 115 L st S) ∧
  (∀ (K : Kt LT) (k : Nat) (L : xL) (st : List Value) (S : LT), nx (cod_L_isStep N xs) cut_L_isStep K (k + 1) 118 L st S = (O_int 1 1) (nx (cod_L_isStep N xs) cut_L_isStep K k) 118 L st S) ∧
  (∀ (K : Kt LT) (k : Nat) (L : xL) (st : List Value) (S : LT), nx (cod_L_isStep N xs) cut_L_isStep K (k + 1) 119 L st S = (O_goto 123) (nx (cod_L_isStep N xs) cut_L_isStep K k) 119 L st S) ∧
  (∀ (K : Kt LT) (k : Nat) (L : xL) (st : List Value) (S : LT), nx (cod_L_isStep N xs) cut_L_isStep K (k + 1) 122 L st S = (O_int 0 1) (nx (cod_L_isStep N xs) cut_L_isStep K k) 122 L st S) ∧
  (∀ (K : Kt LT) (k : Nat) (L : xL) (st : List Value) (S : LT), nx (cod_L_isStep N xs) cut_L_isStep K (k + 1) 123 L st S = (O_zret) (nx (cod_L_isStep N xs) cut_L_isStep K k) 123 L st S) ∧
  (∀ (K : Kt LT) (k : Nat) (L : xL) (st : List Value) (S : LT), nx (cod_L_isStep N xs) cut_L_isStep K (k + 1) 124 L st S = K 124 L st S) ∧
  (∀ (K : Kt LT) (k : Nat) (L : xL) (st : List Value) (S : LT), nx1 (cod_L_isStep N xs) cut_L_isStep K k 124 L st S = (O_iload 3 1) (nx (cod_L_isStep N xs) cut_L_isStep K k) 124 L st S) ∧
  (∀ (K : Kt LT) (k : Nat) (L : xL) (st : List Value) (S : LT), nx (cod_L_isStep N xs) cut_L_isStep K (k + 1) 125 L st S = (O_int 3 1) (nx (cod_L_isStep N xs) cut_L_isStep K k) 125 L st S) ∧
  (∀ (K : Kt LT) (k : Nat) (L : xL) (st : List Value) (S : LT), nx (cod_L_isStep N xs) cut_L_isStep K (k + 1) 126 L st S = (O_callS 2 sp_L_up) (nx (cod_L_isStep N xs) cut_L_isStep K k) 126 L st S) ∧
  (∀ (K : Kt LT) (k : Nat) (L : xL) (st : List Value) (S : LT), nx (cod_L_isStep N xs) cut_L_isStep K (k + 1) 129 L st S = (O_istore 4 2) (nx (cod_L_isStep N xs) cut_L_isStep K k) 129 L st S) ∧
  (∀ (K : Kt LT) (k : Nat) (L : xL) (st : List Value) (S : LT), nx (cod_L_isStep N xs) cut_L_isStep K (k + 1) 131 L st S = (O_int 1 1) (nx (cod_L_isStep N xs) cut_L_isStep K k) 131 L st S) ∧
  (∀ (K : Kt LT) (k : Nat) (L : xL) (st : List Value) (S : LT), nx (cod_L_isStep N xs) cut_L_isStep K (k + 1) 132 L st S = (O_aload 0 1) (nx (cod_L_isStep N xs) cut_L_isStep K k) 132 L st S) ∧
  (∀ (K : Kt LT) (k : Nat) (L : xL) (st : List Value) (S : LT), nx (cod_L_isStep N xs) cut_L_isStep K (k + 1) 133 L st S = (O_iload 4 2) (nx (cod_L_isStep N xs) cut_L_isStep K k) 133 L st S) ∧
  (∀ (K : Kt LT) (k : Nat) (L : xL) (st : List Value) (S : LT), nx (cod_L_isStep N xs) cut_L_isStep K (k + 1) 135 L st S = (O_int 3 1) (nx (cod_L_isStep N xs) cut_L_isStep K k) 135 L st S) ∧
  (∀ (K : Kt LT) (k : Nat) (L : xL) (st : List Value) (S : LT), nx (cod_L_isStep N xs) cut_L_isStep K (k + 1) 136 L st S = (O_callV 2 0 (fun S : LT => S.1) (fun S F => (F, S.2)) (spG yX6_pumpOf cX6_pumpOf 4 (some .int) 2 fpW)) (nx (cod_L_isStep N xs) cut_L_isStep K k) 136 L st S) ∧
  (∀ (K : Kt LT) (k : Nat) (L : xL) (st : List Value) (S : LT), nx (cod_L_isStep N xs) cut_L_isStep K (k + 1) 139 L st S = (O_isub) (nx (cod_L_isStep N xs) cut_L_isStep K k) 139 L st S) ∧
  (∀ (K : Kt LT) (k : Nat) (L : xL) (st : List Value) (S : LT), nx (cod_L_isStep N xs) cut_L_isStep K (k + 1) 140 L st S = (O_istore 5 2) (nx (cod_L_isStep N xs) cut_L_isStep K k) 140 L st S) ∧
  (∀ (K : Kt LT) (k : Nat) (L : xL) (st : List Value) (S : LT), nx (cod_L_isStep N xs) cut_L_isStep K (k + 1) 142 L st S = (O_aload 0 1) (nx (cod_L_isStep N xs) cut_L_isStep K k) 142 L st S) ∧
  (∀ (K : Kt LT) (k : Nat) (L : xL) (st : List Value) (S : LT), nx (cod_L_isStep N xs) cut_L_isStep K (k + 1) 143 L st S = (O_iload 4 2) (nx (cod_L_isStep N xs) cut_L_isStep K k) 143 L st S) ∧
  (∀ (K : Kt LT) (k : Nat) (L : xL) (st : List Value) (S : LT), nx (cod_L_isStep N xs) cut_L_isStep K (k + 1) 145 L st S = (O_iload 5 2) (nx (cod_L_isStep N xs) cut_L_isStep K k) 145 L st S) ∧
  (∀ (K : Kt LT) (k : Nat) (L : xL) (st : List Value) (S : LT), nx (cod_L_isStep N xs) cut_L_isStep K (k + 1) 147 L st S = (O_callV 2 0 (fun S : LT => S.1) (fun S F => (F, S.2)) (spG yX6_service cX6_service 4 (some .int) 4 fpW)) (nx (cod_L_isStep N xs) cut_L_isStep K k) 147 L st S) ∧
  (∀ (K : Kt LT) (k : Nat) (L : xL) (st : List Value) (S : LT), nx (cod_L_isStep N xs) cut_L_isStep K (k + 1) 150 L st S = (O_aload 1 1) (nx (cod_L_isStep N xs) cut_L_isStep K k) 150 L st S) ∧
  (∀ (K : Kt LT) (k : Nat) (L : xL) (st : List Value) (S : LT), nx (cod_L_isStep N xs) cut_L_isStep K (k + 1) 151 L st S = (O_iload 4 2) (nx (cod_L_isStep N xs) cut_L_isStep K k) 151 L st S) ∧
  (∀ (K : Kt LT) (k : Nat) (L : xL) (st : List Value) (S : LT), nx (cod_L_isStep N xs) cut_L_isStep K (k + 1) 153 L st S = (O_iload 5 2) (nx (cod_L_isStep N xs) cut_L_isStep K k) 153 L st S) ∧
  (∀ (K : Kt LT) (k : Nat) (L : xL) (st : List Value) (S : LT), nx (cod_L_isStep N xs) cut_L_isStep K (k + 1) 155 L st S = (O_callV 2 148 (fun S : LT => S.2) (fun S G => (S.1, G)) (spG yX6_service cX6_service 4 (some .int) 4 fpW)) (nx (cod_L_isStep N xs) cut_L_isStep K k) 155 L st S) ∧
  (∀ (K : Kt LT) (k : Nat) (L : xL) (st : List Value) (S : LT), nx (cod_L_isStep N xs) cut_L_isStep K (k + 1) 158 L st S = (O_icmp_ne 165) (nx (cod_L_isStep N xs) cut_L_isStep K k) 158 L st S) ∧
  (∀ (K : Kt LT) (k : Nat) (L : xL) (st : List Value) (S : LT), nx (cod_L_isStep N xs) cut_L_isStep K (k + 1) 161 L st S = (O_int 1 1) (nx (cod_L_isStep N xs) cut_L_isStep K k) 161 L st S) ∧
  (∀ (K : Kt LT) (k : Nat) (L : xL) (st : List Value) (S : LT), nx (cod_L_isStep N xs) cut_L_isStep K (k + 1) 162 L st S = (O_goto 166) (nx (cod_L_isStep N xs) cut_L_isStep K k) 162 L st S) ∧
  (∀ (K : Kt LT) (k : Nat) (L : xL) (st : List Value) (S : LT), nx (cod_L_isStep N xs) cut_L_isStep K (k + 1) 165 L st S = (O_int 0 1) (nx (cod_L_isStep N xs) cut_L_isStep K k) 165 L st S) ∧
  (∀ (K : Kt LT) (k : Nat) (L : xL) (st : List Value) (S : LT), nx (cod_L_isStep N xs) cut_L_isStep K (k + 1) 166 L st S = (O_zret) (nx (cod_L_isStep N xs) cut_L_isStep K k) 166 L st S) ∧
  (∀ (K : Kt LT) (k : Nat) (L : xL) (st : List Value) (S : LT), nx (cod_L_isStep N xs) cut_L_isStep K (k + 1) 167 L st S = K 167 L st S) ∧
  (∀ (K : Kt LT) (k : Nat) (L : xL) (st : List Value) (S : LT), nx1 (cod_L_isStep N xs) cut_L_isStep K k 167 L st S = (O_aload 0 1) (nx (cod_L_isStep N xs) cut_L_isStep K k) 167 L st S) ∧
  (∀ (K : Kt LT) (k : Nat) (L : xL) (st : List Value) (S : LT), nx (cod_L_isStep N xs) cut_L_isStep K (k + 1) 168 L st S = (O_iload 3 1) (nx (cod_L_isStep N xs) cut_L_isStep K k) 168 L st S) ∧
  (∀ (K : Kt LT) (k : Nat) (L : xL) (st : List Value) (S : LT), nx (cod_L_isStep N xs) cut_L_isStep K (k + 1) 169 L st S = (O_int 20001 3) (nx (cod_L_isStep N xs) cut_L_isStep K k) 169 L st S) ∧
  (∀ (K : Kt LT) (k : Nat) (L : xL) (st : List Value) (S : LT), nx (cod_L_isStep N xs) cut_L_isStep K (k + 1) 172 L st S = (O_callS 2 sp_L_up) (nx (cod_L_isStep N xs) cut_L_isStep K k) 172 L st S) ∧
  (∀ (K : Kt LT) (k : Nat) (L : xL) (st : List Value) (S : LT), nx (cod_L_isStep N xs) cut_L_isStep K (k + 1) 175 L st S = (O_callV 1 0 (fun S : LT => S.1) (fun S F => (F, S.2)) (spG yX6_fill cX6_fill 3 (some .int) 4 fpW)) (nx (cod_L_isStep N xs) cut_L_isStep K k) 175 L st S) ∧
  (∀ (K : Kt LT) (k : Nat) (L : xL) (st : List Value) (S : LT), nx (cod_L_isStep N xs) cut_L_isStep K (k + 1) 178 L st S = (O_aload 1 1) (nx (cod_L_isStep N xs) cut_L_isStep K k) 178 L st S) ∧
  (∀ (K : Kt LT) (k : Nat) (L : xL) (st : List Value) (S : LT), nx (cod_L_isStep N xs) cut_L_isStep K (k + 1) 179 L st S = (O_iload 3 1) (nx (cod_L_isStep N xs) cut_L_isStep K k) 179 L st S) ∧
  (∀ (K : Kt LT) (k : Nat) (L : xL) (st : List Value) (S : LT), nx (cod_L_isStep N xs) cut_L_isStep K (k + 1) 180 L st S = (O_int 20001 3) (nx (cod_L_isStep N xs) cut_L_isStep K k) 180 L st S) ∧
  (∀ (K : Kt LT) (k : Nat) (L : xL) (st : List Value) (S : LT), nx (cod_L_isStep N xs) cut_L_isStep K (k + 1) 183 L st S = (O_callS 2 sp_L_up) (nx (cod_L_isStep N xs) cut_L_isStep K k) 183 L st S) ∧
  (∀ (K : Kt LT) (k : Nat) (L : xL) (st : List Value) (S : LT), nx (cod_L_isStep N xs) cut_L_isStep K (k + 1) 186 L st S = (O_callV 1 148 (fun S : LT => S.2) (fun S G => (S.1, G)) (spG yX6_fill cX6_fill 3 (some .int) 4 fpW)) (nx (cod_L_isStep N xs) cut_L_isStep K k) 186 L st S) ∧
  (∀ (K : Kt LT) (k : Nat) (L : xL) (st : List Value) (S : LT), nx (cod_L_isStep N xs) cut_L_isStep K (k + 1) 189 L st S = (O_icmp_ne 196) (nx (cod_L_isStep N xs) cut_L_isStep K k) 189 L st S) ∧
  (∀ (K : Kt LT) (k : Nat) (L : xL) (st : List Value) (S : LT), nx (cod_L_isStep N xs) cut_L_isStep K (k + 1) 192 L st S = (O_int 1 1) (nx (cod_L_isStep N xs) cut_L_isStep K k) 192 L st S) ∧
  (∀ (K : Kt LT) (k : Nat) (L : xL) (st : List Value) (S : LT), nx (cod_L_isStep N xs) cut_L_isStep K (k + 1) 193 L st S = (O_goto 197) (nx (cod_L_isStep N xs) cut_L_isStep K k) 193 L st S) ∧
  (∀ (K : Kt LT) (k : Nat) (L : xL) (st : List Value) (S : LT), nx (cod_L_isStep N xs) cut_L_isStep K (k + 1) 196 L st S = (O_int 0 1) (nx (cod_L_isStep N xs) cut_L_isStep K k) 196 L st S) ∧
  (∀ (K : Kt LT) (k : Nat) (L : xL) (st : List Value) (S : LT), nx (cod_L_isStep N xs) cut_L_isStep K (k + 1) 197 L st S = (O_zret) (nx (cod_L_isStep N xs) cut_L_isStep K k) 197 L st S) ∧
  (∀ (K : Kt LT) (k : Nat) (L : xL) (st : List Value) (S : LT), nx (cod_L_isStep N xs) cut_L_isStep K (k + 1) 198 L st S = K 198 L st S) ∧
  (∀ (K : Kt LT) (k : Nat) (L : xL) (st : List Value) (S : LT), nx1 (cod_L_isStep N xs) cut_L_isStep K k 198 L st S = (O_aload 0 1) (nx (cod_L_isStep N xs) cut_L_isStep K k) 198 L st S) ∧
  (∀ (K : Kt LT) (k : Nat) (L : xL) (st : List Value) (S : LT), nx (cod_L_isStep N xs) cut_L_isStep K (k + 1) 199 L st S = (O_callV 0 0 (fun S : LT => S.1) (fun S F => (F, S.2)) (spG yX6_reset cX6_reset 2 (some .int) 4 fpW)) (nx (cod_L_isStep N xs) cut_L_isStep K k) 199 L st S) ∧
  (∀ (K : Kt LT) (k : Nat) (L : xL) (st : List Value) (S : LT), nx (cod_L_isStep N xs) cut_L_isStep K (k + 1) 202 L st S = (O_aload 1 1) (nx (cod_L_isStep N xs) cut_L_isStep K k) 202 L st S) ∧
  (∀ (K : Kt LT) (k : Nat) (L : xL) (st : List Value) (S : LT), nx (cod_L_isStep N xs) cut_L_isStep K (k + 1) 203 L st S = (O_callV 0 148 (fun S : LT => S.2) (fun S G => (S.1, G)) (spG yX6_reset cX6_reset 2 (some .int) 4 fpW)) (nx (cod_L_isStep N xs) cut_L_isStep K k) 203 L st S) ∧
  (∀ (K : Kt LT) (k : Nat) (L : xL) (st : List Value) (S : LT), nx (cod_L_isStep N xs) cut_L_isStep K (k + 1) 206 L st S = (O_icmp_ne 213) (nx (cod_L_isStep N xs) cut_L_isStep K k) 206 L st S) ∧
  (∀ (K : Kt LT) (k : Nat) (L : xL) (st : List Value) (S : LT), nx (cod_L_isStep N xs) cut_L_isStep K (k + 1) 209 L st S = (O_int 1 1) (nx (cod_L_isStep N xs) cut_L_isStep K k) 209 L st S) ∧
  (∀ (K : Kt LT) (k : Nat) (L : xL) (st : List Value) (S : LT), nx (cod_L_isStep N xs) cut_L_isStep K (k + 1) 210 L st S = (O_goto 214) (nx (cod_L_isStep N xs) cut_L_isStep K k) 210 L st S) ∧
  (∀ (K : Kt LT) (k : Nat) (L : xL) (st : List Value) (S : LT), nx (cod_L_isStep N xs) cut_L_isStep K (k + 1) 213 L st S = (O_int 0 1) (nx (cod_L_isStep N xs) cut_L_isStep K k) 213 L st S) ∧
  (∀ (K : Kt LT) (k : Nat) (L : xL) (st : List Value) (S : LT), nx (cod_L_isStep N xs) cut_L_isStep K (k + 1) 214 L st S = (O_zret) (nx (cod_L_isStep N xs) cut_L_isStep K k) 214 L st S) ∧
  (∀ (K : Kt LT) (k : Nat) (L : xL) (st : List Value) (S : LT), nx (cod_L_isStep N xs) cut_L_isStep K (k + 1) 215 L st S = K 215 L st S) ∧
  (∀ (K : Kt LT) (k : Nat) (L : xL) (st : List Value) (S : LT), nx1 (cod_L_isStep N xs) cut_L_isStep K k 215 L st S = (O_iload 3 1) (nx (cod_L_isStep N xs) cut_L_isStep K k) 215 L st S) ∧
  (∀ (K : Kt LT) (k : Nat) (L : xL) (st : List Value) (S : LT), nx (cod_L_isStep N xs) cut_L_isStep K (k + 1) 216 L st S = (O_int 10 2) (nx (cod_L_isStep N xs) cut_L_isStep K k) 216 L st S) ∧
  (∀ (K : Kt LT) (k : Nat) (L : xL) (st : List Value) (S : LT), nx (cod_L_isStep N xs) cut_L_isStep K (k + 1) 218 L st S = (O_callS 2 sp_L_up) (nx (cod_L_isStep N xs) cut_L_isStep K k) 218 L st S) ∧
  (∀ (K : Kt LT) (k : Nat) (L : xL) (st : List Value) (S : LT), nx (cod_L_isStep N xs) cut_L_isStep K (k + 1) 221 L st S = (O_istore 4 2) (nx (cod_L_isStep N xs) cut_L_isStep K k) 221 L st S) ∧
  (∀ (K : Kt LT) (k : Nat) (L : xL) (st : List Value) (S : LT), nx (cod_L_isStep N xs) cut_L_isStep K (k + 1) 223 L st S = (O_iload 4 2) (nx (cod_L_isStep N xs) cut_L_isStep K k) 223 L st S) ∧
  (∀ (K : Kt LT) (k : Nat) (L : xL) (st : List Value) (S : LT), nx (cod_L_isStep N xs) cut_L_isStep K (k + 1) 225 L st S = (O_if_ne 244) (nx (cod_L_isStep N xs) cut_L_isStep K k) 225 L st S) ∧
  (∀ (K : Kt LT) (k : Nat) (L : xL) (st : List Value) (S : LT), nx (cod_L_isStep N xs) cut_L_isStep K (k + 1) 228 L st S = (O_int 200 3) (nx (cod_L_isStep N xs) cut_L_isStep K k) 228 L st S) ∧
  (∀ (K : Kt LT) (k : Nat) (L : xL) (st : List Value) (S : LT), nx (cod_L_isStep N xs) cut_L_isStep K (k + 1) 231 L st S = (O_iload 3 1) (nx (cod_L_isStep N xs) cut_L_isStep K k) 231 L st S) ∧
  (∀ (K : Kt LT) (k : Nat) (L : xL) (st : List Value) (S : LT), nx (cod_L_isStep N xs) cut_L_isStep K (k + 1) 232 L st S = (O_int 4 1) (nx (cod_L_isStep N xs) cut_L_isStep K k) 232 L st S) ∧
  (∀ (K : Kt LT) (k : Nat) (L : xL) (st : List Value) (S : LT), nx (cod_L_isStep N xs) cut_L_isStep K (k + 1) 233 L st S = (O_ishr) (nx (cod_L_isStep N xs) cut_L_isStep K k) 233 L st S) ∧
  (∀ (K : Kt LT) (k : Nat) (L : xL) (st : List Value) (S : LT), nx (cod_L_isStep N xs) cut_L_isStep K (k + 1) 234 L st S = (O_int 500 3) (nx (cod_L_isStep N xs) cut_L_isStep K k) 234 L st S) ∧
  (∀ (K : Kt LT) (k : Nat) (L : xL) (st : List Value) (S : LT), nx (cod_L_isStep N xs) cut_L_isStep K (k + 1) 237 L st S = (O_callS 2 sp_L_up) (nx (cod_L_isStep N xs) cut_L_isStep K k) 237 L st S) ∧
  (∀ (K : Kt LT) (k : Nat) (L : xL) (st : List Value) (S : LT), nx (cod_L_isStep N xs) cut_L_isStep K (k + 1) 240 L st S = (O_iadd) (nx (cod_L_isStep N xs) cut_L_isStep K k) 240 L st S) ∧
  (∀ (K : Kt LT) (k : Nat) (L : xL) (st : List Value) (S : LT), nx (cod_L_isStep N xs) cut_L_isStep K (k + 1) 241 L st S = (O_goto 276) (nx (cod_L_isStep N xs) cut_L_isStep K k) 241 L st S) ∧
  (∀ (K : Kt LT) (k : Nat) (L : xL) (st : List Value) (S : LT), nx (cod_L_isStep N xs) cut_L_isStep K (k + 1) 244 L st S = (O_iload 4 2) (nx (cod_L_isStep N xs) cut_L_isStep K k) 244 L st S) ∧
  (∀ (K : Kt LT) (k : Nat) (L : xL) (st : List Value) (S : LT), nx (cod_L_isStep N xs) cut_L_isStep K (k + 1) 246 L st S = (O_int 4 1) (nx (cod_L_isStep N xs) cut_L_isStep K k) 246 L st S) ∧
  (∀ (K : Kt LT) (k : Nat) (L : xL) (st : List Value) (S : LT), nx (cod_L_isStep N xs) cut_L_isStep K (k + 1) 247 L st S = (O_icmp_ne 266) (nx (cod_L_isStep N xs) cut_L_isStep K k) 247 L st S) ∧
  (∀ (K : Kt LT) (k : Nat) (L : xL) (st : List Value) (S : LT), nx (cod_L_isStep N xs) cut_L_isStep K (k + 1) 250 L st S = (O_int 300 3) (nx (cod_L_isStep N xs) cut_L_isStep K k) 250 L st S) ∧
  (∀ (K : Kt LT) (k : Nat) (L : xL) (st : List Value) (S : LT), nx (cod_L_isStep N xs) cut_L_isStep K (k + 1) 253 L st S = (O_iload 3 1) (nx (cod_L_isStep N xs) cut_L_isStep K k) 253 L st S) ∧
  (∀ (K : Kt LT) (k : Nat) (L : xL) (st : List Value) (S : LT), nx (cod_L_isStep N xs) cut_L_isStep K (k + 1) 254 L st S = (O_int 4 1) (nx (cod_L_isStep N xs) cut_L_isStep K k) 254 L st S) ∧
  (∀ (K : Kt LT) (k : Nat) (L : xL) (st : List Value) (S : LT), nx (cod_L_isStep N xs) cut_L_isStep K (k + 1) 255 L st S = (O_ishr) (nx (cod_L_isStep N xs) cut_L_isStep K k) 255 L st S) ∧
  (∀ (K : Kt LT) (k : Nat) (L : xL) (st : List Value) (S : LT), nx (cod_L_isStep N xs) cut_L_isStep K (k + 1) 256 L st S = (O_int 600 3) (nx (cod_L_isStep N xs) cut_L_isStep K k) 256 L st S) ∧
  (∀ (K : Kt LT) (k : Nat) (L : xL) (st : List Value) (S : LT), nx (cod_L_isStep N xs) cut_L_isStep K (k + 1) 259 L st S = (O_callS 2 sp_L_up) (nx (cod_L_isStep N xs) cut_L_isStep K k) 259 L st S) ∧
  (∀ (K : Kt LT) (k : Nat) (L : xL) (st : List Value) (S : LT), nx (cod_L_isStep N xs) cut_L_isStep K (k + 1) 262 L st S = (O_iadd) (nx (cod_L_isStep N xs) cut_L_isStep K k) 262 L st S) ∧
  (∀ (K : Kt LT) (k : Nat) (L : xL) (st : List Value) (S : LT), nx (cod_L_isStep N xs) cut_L_isStep K (k + 1) 263 L st S = (O_goto 276) (nx (cod_L_isStep N xs) cut_L_isStep K k) 263 L st S) ∧
  (∀ (K : Kt LT) (k : Nat) (L : xL) (st : List Value) (S : LT), nx (cod_L_isStep N xs) cut_L_isStep K (k + 1) 266 L st S = (O_int 1 1) (nx (cod_L_isStep N xs) cut_L_isStep K k) 266 L st S) ∧
  (∀ (K : Kt LT) (k : Nat) (L : xL) (st : List Value) (S : LT), nx (cod_L_isStep N xs) cut_L_isStep K (k + 1) 267 L st S = (O_iload 3 1) (nx (cod_L_isStep N xs) cut_L_isStep K k) 267 L st S) ∧
  (∀ (K : Kt LT) (k : Nat) (L : xL) (st : List Value) (S : LT), nx (cod_L_isStep N xs) cut_L_isStep K (k + 1) 268 L st S = (O_int 4 1) (nx (cod_L_isStep N xs) cut_L_isStep K k) 268 L st S) ∧
  (∀ (K : Kt LT) (k : Nat) (L : xL) (st : List Value) (S : LT), nx (cod_L_isStep N xs) cut_L_isStep K (k + 1) 269 L st S = (O_ishr) (nx (cod_L_isStep N xs) cut_L_isStep K k) 269 L st S) ∧
  (∀ (K : Kt LT) (k : Nat) (L : xL) (st : List Value) (S : LT), nx (cod_L_isStep N xs) cut_L_isStep K (k + 1) 270 L st S = (O_int 50 2) (nx (cod_L_isStep N xs) cut_L_isStep K k) 270 L st S) ∧
  (∀ (K : Kt LT) (k : Nat) (L : xL) (st : List Value) (S : LT), nx (cod_L_isStep N xs) cut_L_isStep K (k + 1) 272 L st S = (O_callS 2 sp_L_up) (nx (cod_L_isStep N xs) cut_L_isStep K k) 272 L st S) ∧
  (∀ (K : Kt LT) (k : Nat) (L : xL) (st : List Value) (S : LT), nx (cod_L_isStep N xs) cut_L_isStep K (k + 1) 275 L st S = (O_iadd) (nx (cod_L_isStep N xs) cut_L_isStep K k) 275 L st S) ∧
  (∀ (K : Kt LT) (k : Nat) (L : xL) (st : List Value) (S : LT), nx (cod_L_isStep N xs) cut_L_isStep K (k + 1) 276 L st S = K 276 L st S) ∧
  (∀ (K : Kt LT) (k : Nat) (L : xL) (st : List Value) (S : LT), nx1 (cod_L_isStep N xs) cut_L_isStep K k 276 L st S = (O_istore 5 2) (nx (cod_L_isStep N xs) cut_L_isStep K k) 276 L st S) ∧
  (∀ (K : Kt LT) (k : Nat) (L : xL) (st : List Value) (S : LT), nx (cod_L_isStep N xs) cut_L_isStep K (k + 1) 278 L st S = (O_aload 0 1) (nx (cod_L_isStep N xs) cut_L_isStep K k) 278 L st S) ∧
  (∀ (K : Kt LT) (k : Nat) (L : xL) (st : List Value) (S : LT), nx (cod_L_isStep N xs) cut_L_isStep K (k + 1) 279 L st S = (O_iload 4 2) (nx (cod_L_isStep N xs) cut_L_isStep K k) 279 L st S) ∧
  (∀ (K : Kt LT) (k : Nat) (L : xL) (st : List Value) (S : LT), nx (cod_L_isStep N xs) cut_L_isStep K (k + 1) 281 L st S = (O_iload 5 2) (nx (cod_L_isStep N xs) cut_L_isStep K k) 281 L st S) ∧
  (∀ (K : Kt LT) (k : Nat) (L : xL) (st : List Value) (S : LT), nx (cod_L_isStep N xs) cut_L_isStep K (k + 1) 283 L st S = (O_callZ 2 0 yX6_set cX6_set 4 (some .int) 4 fpW (fun S : LT => S.1) (fun S F => (F, S.2))) (nx (cod_L_isStep N xs) cut_L_isStep K k) 283 L st S) ∧
  (∀ (K : Kt LT) (k : Nat) (L : xL) (st : List Value) (S : LT), nx (cod_L_isStep N xs) cut_L_isStep K (k + 1) 286 L st S = (O_aload 1 1) (nx (cod_L_isStep N xs) cut_L_isStep K k) 286 L st S) ∧
  (∀ (K : Kt LT) (k : Nat) (L : xL) (st : List Value) (S : LT), nx (cod_L_isStep N xs) cut_L_isStep K (k + 1) 287 L st S = (O_iload 4 2) (nx (cod_L_isStep N xs) cut_L_isStep K k) 287 L st S) ∧
  (∀ (K : Kt LT) (k : Nat) (L : xL) (st : List Value) (S : LT), nx (cod_L_isStep N xs) cut_L_isStep K (k + 1) 289 L st S = (O_iload 5 2) (nx (cod_L_isStep N xs) cut_L_isStep K k) 289 L st S) ∧
  (∀ (K : Kt LT) (k : Nat) (L : xL) (st : List Value) (S : LT), nx (cod_L_isStep N xs) cut_L_isStep K (k + 1) 291 L st S = (O_callZ 2 148 yX6_set cX6_set 4 (some .int) 4 fpW (fun S : LT => S.2) (fun S G => (S.1, G))) (nx (cod_L_isStep N xs) cut_L_isStep K k) 291 L st S) ∧
  (∀ (K : Kt LT) (k : Nat) (L : xL) (st : List Value) (S : LT), nx (cod_L_isStep N xs) cut_L_isStep K (k + 1) 294 L st S = (O_icmp_ne 301) (nx (cod_L_isStep N xs) cut_L_isStep K k) 294 L st S) ∧
  (∀ (K : Kt LT) (k : Nat) (L : xL) (st : List Value) (S : LT), nx (cod_L_isStep N xs) cut_L_isStep K (k + 1) 297 L st S = (O_int 1 1) (nx (cod_L_isStep N xs) cut_L_isStep K k) 297 L st S) ∧
  (∀ (K : Kt LT) (k : Nat) (L : xL) (st : List Value) (S : LT), nx (cod_L_isStep N xs) cut_L_isStep K (k + 1) 298 L st S = (O_goto 302) (nx (cod_L_isStep N xs) cut_L_isStep K k) 298 L st S) ∧
  (∀ (K : Kt LT) (k : Nat) (L : xL) (st : List Value) (S : LT), nx (cod_L_isStep N xs) cut_L_isStep K (k + 1) 301 L st S = (O_int 0 1) (nx (cod_L_isStep N xs) cut_L_isStep K k) 301 L st S) ∧
  (∀ (K : Kt LT) (k : Nat) (L : xL) (st : List Value) (S : LT), nx (cod_L_isStep N xs) cut_L_isStep K (k + 1) 302 L st S = (O_zret) (nx (cod_L_isStep N xs) cut_L_isStep K k) 302 L st S) ∧
  (∀ (K : Kt LT) (k : Nat) (L : xL) (st : List Value) (S : LT), nx (cod_L_isStep N xs) cut_L_isStep K (k + 1) 303 L st S = K 303 L st S) ∧
  (∀ (K : Kt LT) (k : Nat) (L : xL) (st : List Value) (S : LT), nx1 (cod_L_isStep N xs) cut_L_isStep K k 303 L st S = (O_aload 0 1) (nx (cod_L_isStep N xs) cut_L_isStep K k) 303 L st S) ∧
  (∀ (K : Kt LT) (k : Nat) (L : xL) (st : List Value) (S : LT), nx (cod_L_isStep N xs) cut_L_isStep K (k + 1) 304 L st S = (O_int 1 1) (nx (cod_L_isStep N xs) cut_L_isStep K k) 304 L st S) ∧
  (∀ (K : Kt LT) (k : Nat) (L : xL) (st : List Value) (S : LT), nx (cod_L_isStep N xs) cut_L_isStep K (k + 1) 305 L st S = (O_iload 3 1) (nx (cod_L_isStep N xs) cut_L_isStep K k) 305 L st S) ∧
  (∀ (K : Kt LT) (k : Nat) (L : xL) (st : List Value) (S : LT), nx (cod_L_isStep N xs) cut_L_isStep K (k + 1) 306 L st S = (O_int 50 2) (nx (cod_L_isStep N xs) cut_L_isStep K k) 306 L st S) ∧
  (∀ (K : Kt LT) (k : Nat) (L : xL) (st : List Value) (S : LT), nx (cod_L_isStep N xs) cut_L_isStep K (k + 1) 308 L st S = (O_callS 2 sp_L_up) (nx (cod_L_isStep N xs) cut_L_isStep K k) 308 L st S) ∧
  (∀ (K : Kt LT) (k : Nat) (L : xL) (st : List Value) (S : LT), nx (cod_L_isStep N xs) cut_L_isStep K (k + 1) 311 L st S = (O_iadd) (nx (cod_L_isStep N xs) cut_L_isStep K k) 311 L st S) ∧
  (∀ (K : Kt LT) (k : Nat) (L : xL) (st : List Value) (S : LT), nx (cod_L_isStep N xs) cut_L_isStep K (k + 1) 312 L st S = (O_callV 1 0 (fun S : LT => S.1) (fun S F => (F, S.2)) (spG yX6_pass cX6_pass 3 (some .int) 5 fpW)) (nx (cod_L_isStep N xs) cut_L_isStep K k) 312 L st S) ∧
  (∀ (K : Kt LT) (k : Nat) (L : xL) (st : List Value) (S : LT), nx (cod_L_isStep N xs) cut_L_isStep K (k + 1) 315 L st S = (O_aload 1 1) (nx (cod_L_isStep N xs) cut_L_isStep K k) 315 L st S) ∧
  (∀ (K : Kt LT) (k : Nat) (L : xL) (st : List Value) (S : LT), nx (cod_L_isStep N xs) cut_L_isStep K (k + 1) 316 L st S = (O_int 1 1) (nx (cod_L_isStep N xs) cut_L_isStep K k) 316 L st S) ∧
  (∀ (K : Kt LT) (k : Nat) (L : xL) (st : List Value) (S : LT), nx (cod_L_isStep N xs) cut_L_isStep K (k + 1) 317 L st S = (O_iload 3 1) (nx (cod_L_isStep N xs) cut_L_isStep K k) 317 L st S) ∧
  (∀ (K : Kt LT) (k : Nat) (L : xL) (st : List Value) (S : LT), nx (cod_L_isStep N xs) cut_L_isStep K (k + 1) 318 L st S = (O_int 50 2) (nx (cod_L_isStep N xs) cut_L_isStep K k) 318 L st S) ∧
  (∀ (K : Kt LT) (k : Nat) (L : xL) (st : List Value) (S : LT), nx (cod_L_isStep N xs) cut_L_isStep K (k + 1) 320 L st S = (O_callS 2 sp_L_up) (nx (cod_L_isStep N xs) cut_L_isStep K k) 320 L st S) ∧
  (∀ (K : Kt LT) (k : Nat) (L : xL) (st : List Value) (S : LT), nx (cod_L_isStep N xs) cut_L_isStep K (k + 1) 323 L st S = (O_iadd) (nx (cod_L_isStep N xs) cut_L_isStep K k) 323 L st S) ∧
  (∀ (K : Kt LT) (k : Nat) (L : xL) (st : List Value) (S : LT), nx (cod_L_isStep N xs) cut_L_isStep K (k + 1) 324 L st S = (O_callV 1 148 (fun S : LT => S.2) (fun S G => (S.1, G)) (spG yX6_pass cX6_pass 3 (some .int) 5 fpW)) (nx (cod_L_isStep N xs) cut_L_isStep K k) 324 L st S) ∧
  (∀ (K : Kt LT) (k : Nat) (L : xL) (st : List Value) (S : LT), nx (cod_L_isStep N xs) cut_L_isStep K (k + 1) 327 L st S = (O_icmp_ne 334) (nx (cod_L_isStep N xs) cut_L_isStep K k) 327 L st S) ∧
  (∀ (K : Kt LT) (k : Nat) (L : xL) (st : List Value) (S : LT), nx (cod_L_isStep N xs) cut_L_isStep K (k + 1) 330 L st S = (O_int 1 1) (nx (cod_L_isStep N xs) cut_L_isStep K k) 330 L st S) ∧
  (∀ (K : Kt LT) (k : Nat) (L : xL) (st : List Value) (S : LT), nx (cod_L_isStep N xs) cut_L_isStep K (k + 1) 331 L st S = (O_goto 335) (nx (cod_L_isStep N xs) cut_L_isStep K k) 331 L st S) ∧
  (∀ (K : Kt LT) (k : Nat) (L : xL) (st : List Value) (S : LT), nx (cod_L_isStep N xs) cut_L_isStep K (k + 1) 334 L st S = (O_int 0 1) (nx (cod_L_isStep N xs) cut_L_isStep K k) 334 L st S) ∧
  (∀ (K : Kt LT) (k : Nat) (L : xL) (st : List Value) (S : LT), nx (cod_L_isStep N xs) cut_L_isStep K (k + 1) 335 L st S = (O_zret) (nx (cod_L_isStep N xs) cut_L_isStep K k) 335 L st S) ∧
  (∀ (K : Kt LT) (k : Nat) (L : xL) (st : List Value) (S : LT), nx (cod_L_isStep N xs) cut_L_isStep K (k + 1) 100000 L st S = K 100000 L st S) := by
  repeat' apply And.intro
  all_goals (intros; rfl)
set_option maxRecDepth 100000 in
theorem mk_L_isStep {N : Nat} {xs : Nat → Int32} {P P' : LT} {r : Option Value} {p2 : Int32} (body : ∀ E : En, CodOk E lW (cod_L_isStep N xs) → Gd E lW 100000 [] r.toList P' → Gd E lW 0 [some (.ref 0), some (.ref 148), some (.int p2), none, none, none] [] P) : ConT N xs yL_isStep cL_isStep 6 (some .boolean) 6 lW [.ref 0, .ref 148, .int p2] P r P' :=
  ConT.of (by decide) ((lW_len P').trans (lW_len P).symm) rfl (Nat.le_of_ble_eq_true rfl) (fun E F G Z hr => body E (okc_L_isStep F G Z) hr)
set_option maxRecDepth 10000 in
theorem is_open {N : Nat} {xs : Nat → Int32} {k : Nat} {F G : FT} (h : Tw (k + 1) F G) (x : Int32) (hc : up x 9 = 0) : ∃ F' G' : FT, Tw k F' G' ∧ ConT N xs yL_isStep cL_isStep 6 (some .boolean) 6 lW [.ref 0, .ref 148, .int x] (F, G) (some (.int 1)) (F', G') := by
  have hu : up (x >>> ((4 : Int32) &&& 31)) 3 = nI (upN (x >>> ((4 : Int32) &&& 31)) 3) := up_nI (x >>> ((4 : Int32) &&& 31)) (d := 3) (by decide) (by decide)
  obtain ⟨v, r, F', G', h0, h1, h2, h3⟩ := tw_open h (j := upN (x >>> ((4 : Int32) &&& 31)) 3) (upN_lt _ (by decide))
  refine ⟨F', G', h3, mk_L_isStep (fun E C hr => ?_)⟩
  simp only [Option.toList_some] at hr
  have head : Gd E lW 48 [some (.ref 0), some (.ref 148), some (.int x), some (.int (x >>> ((4 : Int32) &&& 31))), none, none] [] (F, G) := by
    (refine nx1_ok C cut_L_isStep 1000 ?_; simp only [w_L_isStep, ops_eq, xst_eq, call_eq, oK_eq, Option.toList_some, Option.toList_none, List.cons_append, List.nil_append, List.length_cons, List.length_nil, true_and, and_true, Nat.reduceAdd, O_g_eq, O_s_eq, O_t_eq, O_z2, spG_eq, se_L_up, l_eq, z_eq, false_implies, true_implies, implies_true, not_true_eq_false, not_false_eq_true, Nat.reduceLeDiff, Nat.zero_le, hu])
    exact ⟨v, F, h0, r, F', h1, r, G', h2, fun z => absurd rfl z, fun _ => hr⟩
  (refine nx_ok C (cuts := cut_L_isStep) 1000 _ _ _ _ ?_; simp only [w_L_isStep, ops_eq, xst_eq, call_eq, oK_eq, Option.toList_some, Option.toList_none, List.cons_append, List.nil_append, List.length_cons, List.length_nil, true_and, and_true, Nat.reduceAdd, O_g_eq, O_s_eq, O_t_eq, O_z2, spG_eq, se_L_up, l_eq, z_eq, false_implies, true_implies, implies_true, not_true_eq_false, not_false_eq_true, Nat.reduceLeDiff, Nat.zero_le, hc])
  exact head
set_option maxRecDepth 10000 in
theorem is_leak {N : Nat} {xs : Nat → Int32} {k : Nat} {F G : FT} (h : Tw (k + 1) F G) (x : Int32) (hc : up x 9 = 1) : ∃ F' G' : FT, Tw k F' G' ∧ ConT N xs yL_isStep cL_isStep 6 (some .boolean) 6 lW [.ref 0, .ref 148, .int x] (F, G) (some (.int 1)) (F', G') := by
  obtain ⟨r, F', G', h1, h2, h3⟩ := tw_leak h (up (x >>> ((4 : Int32) &&& 31)) 200)
  refine ⟨F', G', h3, mk_L_isStep (fun E C hr => ?_)⟩
  simp only [Option.toList_some] at hr
  have head : Gd E lW 93 [some (.ref 0), some (.ref 148), some (.int x), some (.int (x >>> ((4 : Int32) &&& 31))), none, none] [] (F, G) := by
    (refine nx1_ok C cut_L_isStep 1000 ?_; simp only [w_L_isStep, ops_eq, xst_eq, call_eq, oK_eq, Option.toList_some, Option.toList_none, List.cons_append, List.nil_append, List.length_cons, List.length_nil, true_and, and_true, Nat.reduceAdd, O_g_eq, O_s_eq, O_t_eq, O_z2, spG_eq, se_L_up, l_eq, z_eq, false_implies, true_implies, implies_true, not_true_eq_false, not_false_eq_true, Nat.reduceLeDiff, Nat.zero_le])
    exact ⟨r, F', h1, r, G', h2, fun z => absurd rfl z, fun _ => hr⟩
  (refine nx_ok C (cuts := cut_L_isStep) 1000 _ _ _ _ ?_; simp only [w_L_isStep, ops_eq, xst_eq, call_eq, oK_eq, Option.toList_some, Option.toList_none, List.cons_append, List.nil_append, List.length_cons, List.length_nil, true_and, and_true, Nat.reduceAdd, O_g_eq, O_s_eq, O_t_eq, O_z2, spG_eq, se_L_up, l_eq, z_eq, false_implies, true_implies, implies_true, not_true_eq_false, not_false_eq_true, Nat.reduceLeDiff, Nat.zero_le, hc])
  exact head
set_option maxRecDepth 10000 in
theorem is_service {N : Nat} {xs : Nat → Int32} {k : Nat} {F G : FT} (h : Tw (k + 1) F G) (x : Int32) (hc : up x 9 = 2) : ∃ F' G' : FT, Tw k F' G' ∧ ConT N xs yL_isStep cL_isStep 6 (some .boolean) 6 lW [.ref 0, .ref 148, .int x] (F, G) (some (.int 1)) (F', G') := by
  obtain ⟨v, h0, -⟩ := tw_pumpOf h (up (x >>> ((4 : Int32) &&& 31)) 3) 3
  obtain ⟨r, F', G', h1, h2, h3⟩ := tw_service h (up (x >>> ((4 : Int32) &&& 31)) 3) (1 - v)
  refine ⟨F', G', h3, mk_L_isStep (fun E C hr => ?_)⟩
  simp only [Option.toList_some] at hr
  have head : Gd E lW 124 [some (.ref 0), some (.ref 148), some (.int x), some (.int (x >>> ((4 : Int32) &&& 31))), none, none] [] (F, G) := by
    (refine nx1_ok C cut_L_isStep 1000 ?_; simp only [w_L_isStep, ops_eq, xst_eq, call_eq, oK_eq, Option.toList_some, Option.toList_none, List.cons_append, List.nil_append, List.length_cons, List.length_nil, true_and, and_true, Nat.reduceAdd, O_g_eq, O_s_eq, O_t_eq, O_z2, spG_eq, se_L_up, l_eq, z_eq, false_implies, true_implies, implies_true, not_true_eq_false, not_false_eq_true, Nat.reduceLeDiff, Nat.zero_le])
    exact ⟨v, F, h0, r, F', h1, r, G', h2, fun z => absurd rfl z, fun _ => hr⟩
  (refine nx_ok C (cuts := cut_L_isStep) 1000 _ _ _ _ ?_; simp only [w_L_isStep, ops_eq, xst_eq, call_eq, oK_eq, Option.toList_some, Option.toList_none, List.cons_append, List.nil_append, List.length_cons, List.length_nil, true_and, and_true, Nat.reduceAdd, O_g_eq, O_s_eq, O_t_eq, O_z2, spG_eq, se_L_up, l_eq, z_eq, false_implies, true_implies, implies_true, not_true_eq_false, not_false_eq_true, Nat.reduceLeDiff, Nat.zero_le, hc])
  exact head
set_option maxRecDepth 10000 in
theorem is_fill {N : Nat} {xs : Nat → Int32} {k : Nat} {F G : FT} (h : Tw (k + 1) F G) (x : Int32) (hc : up x 9 = 3) : ∃ F' G' : FT, Tw k F' G' ∧ ConT N xs yL_isStep cL_isStep 6 (some .boolean) 6 lW [.ref 0, .ref 148, .int x] (F, G) (some (.int 1)) (F', G') := by
  obtain ⟨r, F', G', h1, h2, h3⟩ := tw_fill h (up (x >>> ((4 : Int32) &&& 31)) 20001)
  refine ⟨F', G', h3, mk_L_isStep (fun E C hr => ?_)⟩
  simp only [Option.toList_some] at hr
  have head : Gd E lW 167 [some (.ref 0), some (.ref 148), some (.int x), some (.int (x >>> ((4 : Int32) &&& 31))), none, none] [] (F, G) := by
    (refine nx1_ok C cut_L_isStep 1000 ?_; simp only [w_L_isStep, ops_eq, xst_eq, call_eq, oK_eq, Option.toList_some, Option.toList_none, List.cons_append, List.nil_append, List.length_cons, List.length_nil, true_and, and_true, Nat.reduceAdd, O_g_eq, O_s_eq, O_t_eq, O_z2, spG_eq, se_L_up, l_eq, z_eq, false_implies, true_implies, implies_true, not_true_eq_false, not_false_eq_true, Nat.reduceLeDiff, Nat.zero_le])
    exact ⟨r, F', h1, r, G', h2, fun z => absurd rfl z, fun _ => hr⟩
  (refine nx_ok C (cuts := cut_L_isStep) 1000 _ _ _ _ ?_; simp only [w_L_isStep, ops_eq, xst_eq, call_eq, oK_eq, Option.toList_some, Option.toList_none, List.cons_append, List.nil_append, List.length_cons, List.length_nil, true_and, and_true, Nat.reduceAdd, O_g_eq, O_s_eq, O_t_eq, O_z2, spG_eq, se_L_up, l_eq, z_eq, false_implies, true_implies, implies_true, not_true_eq_false, not_false_eq_true, Nat.reduceLeDiff, Nat.zero_le, hc])
  exact head
set_option maxRecDepth 10000 in
theorem is_reset {N : Nat} {xs : Nat → Int32} {k : Nat} {F G : FT} (h : Tw (k + 1) F G) (x : Int32) (hc : up x 9 = 4) : ∃ F' G' : FT, Tw k F' G' ∧ ConT N xs yL_isStep cL_isStep 6 (some .boolean) 6 lW [.ref 0, .ref 148, .int x] (F, G) (some (.int 1)) (F', G') := by
  obtain ⟨r, F', G', h1, h2, h3⟩ := tw_reset h
  refine ⟨F', G', h3, mk_L_isStep (fun E C hr => ?_)⟩
  simp only [Option.toList_some] at hr
  have head : Gd E lW 198 [some (.ref 0), some (.ref 148), some (.int x), some (.int (x >>> ((4 : Int32) &&& 31))), none, none] [] (F, G) := by
    (refine nx1_ok C cut_L_isStep 1000 ?_; simp only [w_L_isStep, ops_eq, xst_eq, call_eq, oK_eq, Option.toList_some, Option.toList_none, List.cons_append, List.nil_append, List.length_cons, List.length_nil, true_and, and_true, Nat.reduceAdd, O_g_eq, O_s_eq, O_t_eq, O_z2, spG_eq, se_L_up, l_eq, z_eq, false_implies, true_implies, implies_true, not_true_eq_false, not_false_eq_true, Nat.reduceLeDiff, Nat.zero_le])
    exact ⟨r, F', h1, r, G', h2, fun z => absurd rfl z, fun _ => hr⟩
  (refine nx_ok C (cuts := cut_L_isStep) 1000 _ _ _ _ ?_; simp only [w_L_isStep, ops_eq, xst_eq, call_eq, oK_eq, Option.toList_some, Option.toList_none, List.cons_append, List.nil_append, List.length_cons, List.length_nil, true_and, and_true, Nat.reduceAdd, O_g_eq, O_s_eq, O_t_eq, O_z2, spG_eq, se_L_up, l_eq, z_eq, false_implies, true_implies, implies_true, not_true_eq_false, not_false_eq_true, Nat.reduceLeDiff, Nat.zero_le, hc])
  exact head
set_option maxRecDepth 10000 in
theorem is_pass {N : Nat} {xs : Nat → Int32} {k : Nat} {F G : FT} (h : Tw (k + 1) F G) (x : Int32) (hc0 : ¬ up x 9 = 0) (hc1 : ¬ up x 9 = 1) (hc2 : ¬ up x 9 = 2) (hc3 : ¬ up x 9 = 3) (hc4 : ¬ up x 9 = 4) (hc5 : ¬ up x 9 = 5) : ∃ F' G' : FT, Tw k F' G' ∧ ConT N xs yL_isStep cL_isStep 6 (some .boolean) 6 lW [.ref 0, .ref 148, .int x] (F, G) (some (.int 1)) (F', G') := by
  obtain ⟨r, F', G', h1, h2, h3⟩ := tw_pass h (1 + up (x >>> ((4 : Int32) &&& 31)) 50)
  refine ⟨F', G', h3, mk_L_isStep (fun E C hr => ?_)⟩
  simp only [Option.toList_some] at hr
  have head : Gd E lW 303 [some (.ref 0), some (.ref 148), some (.int x), some (.int (x >>> ((4 : Int32) &&& 31))), none, none] [] (F, G) := by
    (refine nx1_ok C cut_L_isStep 1000 ?_; simp only [w_L_isStep, ops_eq, xst_eq, call_eq, oK_eq, Option.toList_some, Option.toList_none, List.cons_append, List.nil_append, List.length_cons, List.length_nil, true_and, and_true, Nat.reduceAdd, O_g_eq, O_s_eq, O_t_eq, O_z2, spG_eq, se_L_up, l_eq, z_eq, false_implies, true_implies, implies_true, not_true_eq_false, not_false_eq_true, Nat.reduceLeDiff, Nat.zero_le])
    exact ⟨r, F', h1, r, G', h2, fun z => absurd rfl z, fun _ => hr⟩
  (refine nx_ok C (cuts := cut_L_isStep) 1000 _ _ _ _ ?_; simp only [w_L_isStep, ops_eq, xst_eq, call_eq, oK_eq, Option.toList_some, Option.toList_none, List.cons_append, List.nil_append, List.length_cons, List.length_nil, true_and, and_true, Nat.reduceAdd, O_g_eq, O_s_eq, O_t_eq, O_z2, spG_eq, se_L_up, l_eq, z_eq, false_implies, true_implies, implies_true, not_true_eq_false, not_false_eq_true, Nat.reduceLeDiff, Nat.zero_le, hc0, hc1, hc2, hc3, hc4, hc5])
  exact head
set_option maxRecDepth 10000 in
theorem is_set {N : Nat} {xs : Nat → Int32} {k : Nat} {F G : FT} (h : Tw (k + 1) F G) (x : Int32) (hc : up x 9 = 5) : ∃ F' G' : FT, Tw k F' G' ∧ ConT N xs yL_isStep cL_isStep 6 (some .boolean) 6 lW [.ref 0, .ref 148, .int x] (F, G) (some (.int 1)) (F', G') := by
  generalize hw : up (x >>> ((4 : Int32) &&& 31)) 10 = w
  have hv : ∃ v : Int32, ∀ E : En, CodOk E lW (cod_L_isStep N xs) → Gd E lW 276 [some (.ref 0), some (.ref 148), some (.int x), some (.int (x >>> ((4 : Int32) &&& 31))), some (.int w), none] [.int v] (F, G) → Gd E lW 215 [some (.ref 0), some (.ref 148), some (.int x), some (.int (x >>> ((4 : Int32) &&& 31))), none, none] [] (F, G) := by
    by_cases c0 : w = 0
    · refine ⟨200 + up ((x >>> ((4 : Int32) &&& 31)) >>> ((4 : Int32) &&& 31)) 500, fun E C q => ?_⟩
      (refine nx1_ok C cut_L_isStep 1000 ?_; simp only [w_L_isStep, ops_eq, xst_eq, call_eq, oK_eq, Option.toList_some, Option.toList_none, List.cons_append, List.nil_append, List.length_cons, List.length_nil, true_and, and_true, Nat.reduceAdd, O_g_eq, O_s_eq, O_t_eq, O_z2, spG_eq, se_L_up, l_eq, z_eq, false_implies, true_implies, implies_true, not_true_eq_false, not_false_eq_true, Nat.reduceLeDiff, Nat.zero_le, hw, c0])
      rw [c0] at q
      exact q
    · by_cases c4 : w = 4
      · refine ⟨300 + up ((x >>> ((4 : Int32) &&& 31)) >>> ((4 : Int32) &&& 31)) 600, fun E C q => ?_⟩
        (refine nx1_ok C cut_L_isStep 1000 ?_; simp only [w_L_isStep, ops_eq, xst_eq, call_eq, oK_eq, Option.toList_some, Option.toList_none, List.cons_append, List.nil_append, List.length_cons, List.length_nil, true_and, and_true, Nat.reduceAdd, O_g_eq, O_s_eq, O_t_eq, O_z2, spG_eq, se_L_up, l_eq, z_eq, false_implies, true_implies, implies_true, not_true_eq_false, not_false_eq_true, Nat.reduceLeDiff, Nat.zero_le, hw, c4])
        rw [c4] at q
        exact q
      · refine ⟨1 + up ((x >>> ((4 : Int32) &&& 31)) >>> ((4 : Int32) &&& 31)) 50, fun E C q => ?_⟩
        (refine nx1_ok C cut_L_isStep 1000 ?_; simp only [w_L_isStep, ops_eq, xst_eq, call_eq, oK_eq, Option.toList_some, Option.toList_none, List.cons_append, List.nil_append, List.length_cons, List.length_nil, true_and, and_true, Nat.reduceAdd, O_g_eq, O_s_eq, O_t_eq, O_z2, spG_eq, se_L_up, l_eq, z_eq, false_implies, true_implies, implies_true, not_true_eq_false, not_false_eq_true, Nat.reduceLeDiff, Nat.zero_le, hw, c0, c4])
        exact q
  obtain ⟨v, hv⟩ := hv
  obtain ⟨r, F', G', h1, h2, h3⟩ := tw_set h w v
  refine ⟨F', G', h3, mk_L_isStep (fun E C hr => ?_)⟩
  simp only [Option.toList_some] at hr
  have h276 : Gd E lW 276 [some (.ref 0), some (.ref 148), some (.int x), some (.int (x >>> ((4 : Int32) &&& 31))), some (.int w), none] [.int v] (F, G) := by
    (refine nx1_ok C cut_L_isStep 1000 ?_; simp only [w_L_isStep, ops_eq, xst_eq, call_eq, oK_eq, Option.toList_some, Option.toList_none, List.cons_append, List.nil_append, List.length_cons, List.length_nil, true_and, and_true, Nat.reduceAdd, O_g_eq, O_s_eq, O_t_eq, O_z2, spG_eq, se_L_up, l_eq, z_eq, false_implies, true_implies, implies_true, not_true_eq_false, not_false_eq_true, Nat.reduceLeDiff, Nat.zero_le])
    exact ⟨r, F', h1, r, G', h2, fun z => absurd rfl z, fun _ => hr⟩
  have head := hv E C h276
  (refine nx_ok C (cuts := cut_L_isStep) 1000 _ _ _ _ ?_; simp only [w_L_isStep, ops_eq, xst_eq, call_eq, oK_eq, Option.toList_some, Option.toList_none, List.cons_append, List.nil_append, List.length_cons, List.length_nil, true_and, and_true, Nat.reduceAdd, O_g_eq, O_s_eq, O_t_eq, O_z2, spG_eq, se_L_up, l_eq, z_eq, false_implies, true_implies, implies_true, not_true_eq_false, not_false_eq_true, Nat.reduceLeDiff, Nat.zero_le, hc])
  exact head
theorem con_L_isStep {N : Nat} {xs : Nat → Int32} {k : Nat} {F G : FT} (h : Tw (k + 1) F G) (x : Int32) : ∃ F' G' : FT, Tw k F' G' ∧ ConT N xs yL_isStep cL_isStep 6 (some .boolean) 6 lW [.ref 0, .ref 148, .int x] (F, G) (some (.int 1)) (F', G') := by
  by_cases c0 : up x 9 = 0
  · exact is_open h x c0
  by_cases c1 : up x 9 = 1
  · exact is_leak h x c1
  by_cases c2 : up x 9 = 2
  · exact is_service h x c2
  by_cases c3 : up x 9 = 3
  · exact is_fill h x c3
  by_cases c4 : up x 9 = 4
  · exact is_reset h x c4
  by_cases c5 : up x 9 = 5
  · exact is_set h x c5
  exact is_pass h x c0 c1 c2 c3 c4 c5
