/-! ===== the law's own body, behind the two constructors ===== -/
def cod_L_law (N : Nat) (xs : Nat → Int32) : List (Nat × Op LT) := [(16, O_int 1 1), (17, O_istore 3 1), (18, O_int 0 1), (19, O_istore 4 2), (21, O_iload 4 2), (23, O_int 3 1), (24, O_icmp_ge 187), (27, O_aload 0 1), (28, O_iload 4 2), (30, O_callT N xs 2 yL_cell cL_cell 2 (some .int) 0 lW), (33, O_istore 5 2), (35, O_iload 5 2), (37, O_int 3 1), (38, O_callS 2 sp_L_up), (41, O_istore 6 2), (43, O_int 400 3), (46, O_iload 5 2), (48, O_int 2 1), (49, O_ishr), (50, O_int 900 3), (53, O_callS 2 sp_L_up), (56, O_iadd), (57, O_istore 7 2), (59, O_iload 3 1), (60, O_if_eq 117), (63, O_aload 1 1), (64, O_iload 6 2), (66, O_iload 7 2), (68, O_int 1 1), (69, O_iload 5 2), (71, O_int 12 2), (73, O_ishr), (74, O_int 80 2), (76, O_callS 2 sp_L_up), (79, O_iadd), (80, O_callV 3 0 (fun S : LT => S.1) (fun S F => (F, S.2)) (spG yX6_pump cX6_pump 4 (some .int) 4 fpW)), (83, O_iload 4 2), (85, O_icmp_ne 117), (88, O_aload 2 1), (89, O_iload 6 2), (91, O_iload 7 2), (93, O_int 1 1), (94, O_iload 5 2), (96, O_int 12 2), (98, O_ishr), (99, O_int 80 2), (101, O_callS 2 sp_L_up), (104, O_iadd), (105, O_callV 3 148 (fun S : LT => S.2) (fun S G => (S.1, G)) (spG yX6_pump cX6_pump 4 (some .int) 4 fpW)), (108, O_iload 4 2), (110, O_icmp_ne 117), (113, O_int 1 1), (114, O_goto 118), (117, O_int 0 1), (118, O_istore 3 1), (119, O_iload 3 1), (120, O_if_eq 179), (123, O_aload 1 1), (124, O_int 10 2), (126, O_aload 0 1), (127, O_int 3 1), (128, O_iload 4 2), (130, O_iadd), (131, O_callT N xs 2 yL_cell cL_cell 2 (some .int) 0 lW), (134, O_int 400 3), (137, O_callS 2 sp_L_up), (140, O_iadd), (141, O_callV 1 0 (fun S : LT => S.1) (fun S F => (F, S.2)) (spG yX6_zone cX6_zone 2 (some .int) 4 fpW)), (144, O_iload 4 2), (146, O_icmp_ne 179), (149, O_aload 2 1), (150, O_int 10 2), (152, O_aload 0 1), (153, O_int 5 1), (154, O_iload 4 2), (156, O_isub), (157, O_callT N xs 2 yL_cell cL_cell 2 (some .int) 0 lW), (160, O_int 400 3), (163, O_callS 2 sp_L_up), (166, O_iadd), (167, O_callV 1 148 (fun S : LT => S.2) (fun S G => (S.1, G)) (spG yX6_zone cX6_zone 2 (some .int) 4 fpW)), (170, O_iload 4 2), (172, O_icmp_ne 179), (175, O_int 1 1), (176, O_goto 180), (179, O_int 0 1), (180, O_istore 3 1), (181, O_iinc 4 1), (184, O_goto 21), (187, O_int 0 1), (188, O_istore 4 2), (190, O_iload 4 2), (192, O_int 3 1), (193, O_icmp_ge 250), (196, O_aload 0 1), (197, O_int 6 2), (199, O_iload 4 2), (201, O_iadd), (202, O_callT N xs 2 yL_cell cL_cell 2 (some .int) 0 lW), (205, O_int 200 3), (208, O_callS 2 sp_L_up), (211, O_istore 5 2), (213, O_iload 3 1), (214, O_if_eq 242), (217, O_aload 1 1), (218, O_iload 4 2), (220, O_iload 5 2), (222, O_int 200 3), (225, O_iload 4 2), (227, O_iadd), (228, O_callV 3 0 (fun S : LT => S.1) (fun S F => (F, S.2)) (spG yX6_programme cX6_programme 4 (some .int) 4 fpW)), (231, O_iload 4 2), (233, O_int 1 1), (234, O_iadd), (235, O_icmp_ne 242), (238, O_int 1 1), (239, O_goto 243), (242, O_int 0 1), (243, O_istore 3 1), (244, O_iinc 4 1), (247, O_goto 190), (250, O_int 0 1), (251, O_istore 4 2), (253, O_iload 4 2), (255, O_int 3 1), (256, O_icmp_ge 313), (259, O_aload 0 1), (260, O_int 8 2), (262, O_iload 4 2), (264, O_isub), (265, O_callT N xs 2 yL_cell cL_cell 2 (some .int) 0 lW), (268, O_int 200 3), (271, O_callS 2 sp_L_up), (274, O_istore 5 2), (276, O_iload 3 1), (277, O_if_eq 305), (280, O_aload 2 1), (281, O_iload 4 2), (283, O_iload 5 2), (285, O_int 202 3), (288, O_iload 4 2), (290, O_isub), (291, O_callV 3 148 (fun S : LT => S.2) (fun S G => (S.1, G)) (spG yX6_programme cX6_programme 4 (some .int) 4 fpW)), (294, O_iload 4 2), (296, O_int 1 1), (297, O_iadd), (298, O_icmp_ne 305), (301, O_int 1 1), (302, O_goto 306), (305, O_int 0 1), (306, O_istore 3 1), (307, O_iinc 4 1), (310, O_goto 253), (313, O_iload 3 1), (314, O_if_eq 361), (317, O_aload 1 1), (318, O_int 18 2), (320, O_aload 0 1), (321, O_int 9 2), (323, O_callT N xs 2 yL_cell cL_cell 2 (some .int) 0 lW), (326, O_int 60 2), (328, O_callS 2 sp_L_up), (331, O_callZ 2 0 yX6_set cX6_set 4 (some .int) 4 fpW (fun S : LT => S.1) (fun S F => (F, S.2))), (334, O_if_ne 361), (337, O_aload 2 1), (338, O_int 18 2), (340, O_aload 0 1), (341, O_int 9 2), (343, O_callT N xs 2 yL_cell cL_cell 2 (some .int) 0 lW), (346, O_int 60 2), (348, O_callS 2 sp_L_up), (351, O_callZ 2 148 yX6_set cX6_set 4 (some .int) 4 fpW (fun S : LT => S.2) (fun S G => (S.1, G))), (354, O_if_ne 361), (357, O_int 1 1), (358, O_goto 362), (361, O_int 0 1), (362, O_istore 3 1), (363, O_int 10 2), (365, O_istore 4 2), (367, O_iload 4 2), (369, O_int 44 2), (371, O_icmp_ge 419), (374, O_iload 3 1), (375, O_if_eq 419), (378, O_aload 1 1), (379, O_aload 2 1), (380, O_aload 0 1), (381, O_iload 4 2), (383, O_callT N xs 2 yL_cell cL_cell 2 (some .int) 0 lW), (386, O_callT N xs 3 yL_isStep cL_isStep 6 (some .boolean) 6 lW), (389, O_if_eq 411), (392, O_aload 1 1), (393, O_aload 2 1), (394, O_callT N xs 2 yL_areAlike cL_areAlike 5 (some .boolean) 6 lW), (397, O_if_eq 411), (400, O_aload 1 1), (401, O_callT N xs 1 yL_isSound cL_isSound 7 (some .boolean) 4 lW), (404, O_if_eq 411), (407, O_int 1 1), (408, O_goto 412), (411, O_int 0 1), (412, O_istore 3 1), (413, O_iinc 4 1), (416, O_goto 367), (419, O_iload 3 1), (420, O_if_eq 434), (423, O_aload 1 1), (424, O_callT N xs 1 yL_isMinute cL_isMinute 7 (some .boolean) 6 lW), (427, O_if_eq 434), (430, O_int 1 1), (431, O_goto 435), (434, O_int 0 1)]
abbrev cut_L_law : List Nat := [21, 117, 119, 179, 190, 242, 253, 305, 313, 361, 367, 411, 419, 434]
set_option maxRecDepth 100000 in
theorem okc_L_law {E : En} {N : Nat} {xs : Nat → Int32} (F : Fx E RL code 8 9) (Z : LZ N xs E) : CodOk E lW (cod_L_law N xs) := by
  unfold CodOk cod_L_law
  refine List.forall_mem_cons.mpr ⟨ok_iconst F dL_law_16 (by decide) (by decide), ?_⟩
  refine List.forall_mem_cons.mpr ⟨ok_istore_n F dL_law_17 rfl (by decide) (by decide), ?_⟩
  refine List.forall_mem_cons.mpr ⟨ok_iconst F dL_law_18 (by decide) (by decide), ?_⟩
  refine List.forall_mem_cons.mpr ⟨ok_istore F dL_law_19 (by decide) (by decide), ?_⟩
  refine List.forall_mem_cons.mpr ⟨ok_iload F dL_law_21 (by decide), ?_⟩
  refine List.forall_mem_cons.mpr ⟨ok_iconst F dL_law_23 (by decide) (by decide), ?_⟩
  refine List.forall_mem_cons.mpr ⟨ok_icmp_ge F dL_law_24 (by decide) (by decide) (by decide), ?_⟩
  refine List.forall_mem_cons.mpr ⟨ok_aload_n F dL_law_27 rfl (by decide), ?_⟩
  refine List.forall_mem_cons.mpr ⟨ok_iload F dL_law_28 (by decide), ?_⟩
  refine List.forall_mem_cons.mpr ⟨ok_callT F Z (by decide +kernel) rfl (by decide) dL_law_30 (by show 30 + 3 < 100000; decide), ?_⟩
  refine List.forall_mem_cons.mpr ⟨ok_istore F dL_law_33 (by decide) (by decide), ?_⟩
  refine List.forall_mem_cons.mpr ⟨ok_iload F dL_law_35 (by decide), ?_⟩
  refine List.forall_mem_cons.mpr ⟨ok_iconst F dL_law_37 (by decide) (by decide), ?_⟩
  refine List.forall_mem_cons.mpr ⟨ok_callS F spok_L_up (by decide +kernel) rfl (by decide) dL_law_38 (by decide), ?_⟩
  refine List.forall_mem_cons.mpr ⟨ok_istore F dL_law_41 (by decide) (by decide), ?_⟩
  refine List.forall_mem_cons.mpr ⟨ok_sipush F dL_law_43 (by decide) (by decide), ?_⟩
  refine List.forall_mem_cons.mpr ⟨ok_iload F dL_law_46 (by decide), ?_⟩
  refine List.forall_mem_cons.mpr ⟨ok_iconst F dL_law_48 (by decide) (by decide), ?_⟩
  refine List.forall_mem_cons.mpr ⟨ok_ishr F dL_law_49 (by decide), ?_⟩
  refine List.forall_mem_cons.mpr ⟨ok_sipush F dL_law_50 (by decide) (by decide), ?_⟩
  refine List.forall_mem_cons.mpr ⟨ok_callS F spok_L_up (by decide +kernel) rfl (by decide) dL_law_53 (by decide), ?_⟩
  refine List.forall_mem_cons.mpr ⟨ok_iadd F dL_law_56 (by decide), ?_⟩
  refine List.forall_mem_cons.mpr ⟨ok_istore F dL_law_57 (by decide) (by decide), ?_⟩
  refine List.forall_mem_cons.mpr ⟨ok_iload_n F dL_law_59 rfl (by decide), ?_⟩
  refine List.forall_mem_cons.mpr ⟨ok_if_eq F dL_law_60 (by decide) (by decide) (by decide), ?_⟩
  refine List.forall_mem_cons.mpr ⟨ok_aload_n F dL_law_63 rfl (by decide), ?_⟩
  refine List.forall_mem_cons.mpr ⟨ok_iload F dL_law_64 (by decide), ?_⟩
  refine List.forall_mem_cons.mpr ⟨ok_iload F dL_law_66 (by decide), ?_⟩
  refine List.forall_mem_cons.mpr ⟨ok_iconst F dL_law_68 (by decide) (by decide), ?_⟩
  refine List.forall_mem_cons.mpr ⟨ok_iload F dL_law_69 (by decide), ?_⟩
  refine List.forall_mem_cons.mpr ⟨ok_bipush F dL_law_71 (by decide) (by decide), ?_⟩
  refine List.forall_mem_cons.mpr ⟨ok_ishr F dL_law_73 (by decide), ?_⟩
  refine List.forall_mem_cons.mpr ⟨ok_bipush F dL_law_74 (by decide) (by decide), ?_⟩
  refine List.forall_mem_cons.mpr ⟨ok_callS F spok_L_up (by decide +kernel) rfl (by decide) dL_law_76 (by decide), ?_⟩
  refine List.forall_mem_cons.mpr ⟨ok_iadd F dL_law_79 (by decide), ?_⟩
  refine List.forall_mem_cons.mpr ⟨ok_callV F (spG_ok yX6_pump cX6_pump 4 (some .int) 4 fpW) ln_lw_F rcv_fpW (by decide +kernel) (by decide) dL_law_80 (by decide), ?_⟩
  refine List.forall_mem_cons.mpr ⟨ok_iload F dL_law_83 (by decide), ?_⟩
  refine List.forall_mem_cons.mpr ⟨ok_icmp_ne F dL_law_85 (by decide) (by decide) (by decide), ?_⟩
  refine List.forall_mem_cons.mpr ⟨ok_aload_n F dL_law_88 rfl (by decide), ?_⟩
  refine List.forall_mem_cons.mpr ⟨ok_iload F dL_law_89 (by decide), ?_⟩
  refine List.forall_mem_cons.mpr ⟨ok_iload F dL_law_91 (by decide), ?_⟩
  refine List.forall_mem_cons.mpr ⟨ok_iconst F dL_law_93 (by decide) (by decide), ?_⟩
  refine List.forall_mem_cons.mpr ⟨ok_iload F dL_law_94 (by decide), ?_⟩
  refine List.forall_mem_cons.mpr ⟨ok_bipush F dL_law_96 (by decide) (by decide), ?_⟩
  refine List.forall_mem_cons.mpr ⟨ok_ishr F dL_law_98 (by decide), ?_⟩
  refine List.forall_mem_cons.mpr ⟨ok_bipush F dL_law_99 (by decide) (by decide), ?_⟩
  refine List.forall_mem_cons.mpr ⟨ok_callS F spok_L_up (by decide +kernel) rfl (by decide) dL_law_101 (by decide), ?_⟩
  refine List.forall_mem_cons.mpr ⟨ok_iadd F dL_law_104 (by decide), ?_⟩
  refine List.forall_mem_cons.mpr ⟨ok_callV F (spG_ok yX6_pump cX6_pump 4 (some .int) 4 fpW) ln_lw_G rcv_fpW (by decide +kernel) (by decide) dL_law_105 (by decide), ?_⟩
  refine List.forall_mem_cons.mpr ⟨ok_iload F dL_law_108 (by decide), ?_⟩
  refine List.forall_mem_cons.mpr ⟨ok_icmp_ne F dL_law_110 (by decide) (by decide) (by decide), ?_⟩
  refine List.forall_mem_cons.mpr ⟨ok_iconst F dL_law_113 (by decide) (by decide), ?_⟩
  refine List.forall_mem_cons.mpr ⟨ok_goto F dL_law_114 (by decide) (by decide) (by decide), ?_⟩
  refine List.forall_mem_cons.mpr ⟨ok_iconst F dL_law_117 (by decide) (by decide), ?_⟩
  refine List.forall_mem_cons.mpr ⟨ok_istore_n F dL_law_118 rfl (by decide) (by decide), ?_⟩
  refine List.forall_mem_cons.mpr ⟨ok_iload_n F dL_law_119 rfl (by decide), ?_⟩
  refine List.forall_mem_cons.mpr ⟨ok_if_eq F dL_law_120 (by decide) (by decide) (by decide), ?_⟩
  refine List.forall_mem_cons.mpr ⟨ok_aload_n F dL_law_123 rfl (by decide), ?_⟩
  refine List.forall_mem_cons.mpr ⟨ok_bipush F dL_law_124 (by decide) (by decide), ?_⟩
  refine List.forall_mem_cons.mpr ⟨ok_aload_n F dL_law_126 rfl (by decide), ?_⟩
  refine List.forall_mem_cons.mpr ⟨ok_iconst F dL_law_127 (by decide) (by decide), ?_⟩
  refine List.forall_mem_cons.mpr ⟨ok_iload F dL_law_128 (by decide), ?_⟩
  refine List.forall_mem_cons.mpr ⟨ok_iadd F dL_law_130 (by decide), ?_⟩
  refine List.forall_mem_cons.mpr ⟨ok_callT F Z (by decide +kernel) rfl (by decide) dL_law_131 (by show 131 + 3 < 100000; decide), ?_⟩
  refine List.forall_mem_cons.mpr ⟨ok_sipush F dL_law_134 (by decide) (by decide), ?_⟩
  refine List.forall_mem_cons.mpr ⟨ok_callS F spok_L_up (by decide +kernel) rfl (by decide) dL_law_137 (by decide), ?_⟩
  refine List.forall_mem_cons.mpr ⟨ok_iadd F dL_law_140 (by decide), ?_⟩
  refine List.forall_mem_cons.mpr ⟨ok_callV F (spG_ok yX6_zone cX6_zone 2 (some .int) 4 fpW) ln_lw_F rcv_fpW (by decide +kernel) (by decide) dL_law_141 (by decide), ?_⟩
  refine List.forall_mem_cons.mpr ⟨ok_iload F dL_law_144 (by decide), ?_⟩
  refine List.forall_mem_cons.mpr ⟨ok_icmp_ne F dL_law_146 (by decide) (by decide) (by decide), ?_⟩
  refine List.forall_mem_cons.mpr ⟨ok_aload_n F dL_law_149 rfl (by decide), ?_⟩
  refine List.forall_mem_cons.mpr ⟨ok_bipush F dL_law_150 (by decide) (by decide), ?_⟩
  refine List.forall_mem_cons.mpr ⟨ok_aload_n F dL_law_152 rfl (by decide), ?_⟩
  refine List.forall_mem_cons.mpr ⟨ok_iconst F dL_law_153 (by decide) (by decide), ?_⟩
  refine List.forall_mem_cons.mpr ⟨ok_iload F dL_law_154 (by decide), ?_⟩
  refine List.forall_mem_cons.mpr ⟨ok_isub F dL_law_156 (by decide), ?_⟩
  refine List.forall_mem_cons.mpr ⟨ok_callT F Z (by decide +kernel) rfl (by decide) dL_law_157 (by show 157 + 3 < 100000; decide), ?_⟩
  refine List.forall_mem_cons.mpr ⟨ok_sipush F dL_law_160 (by decide) (by decide), ?_⟩
  refine List.forall_mem_cons.mpr ⟨ok_callS F spok_L_up (by decide +kernel) rfl (by decide) dL_law_163 (by decide), ?_⟩
  refine List.forall_mem_cons.mpr ⟨ok_iadd F dL_law_166 (by decide), ?_⟩
  refine List.forall_mem_cons.mpr ⟨ok_callV F (spG_ok yX6_zone cX6_zone 2 (some .int) 4 fpW) ln_lw_G rcv_fpW (by decide +kernel) (by decide) dL_law_167 (by decide), ?_⟩
  refine List.forall_mem_cons.mpr ⟨ok_iload F dL_law_170 (by decide), ?_⟩
  refine List.forall_mem_cons.mpr ⟨ok_icmp_ne F dL_law_172 (by decide) (by decide) (by decide), ?_⟩
  refine List.forall_mem_cons.mpr ⟨ok_iconst F dL_law_175 (by decide) (by decide), ?_⟩
  refine List.forall_mem_cons.mpr ⟨ok_goto F dL_law_176 (by decide) (by decide) (by decide), ?_⟩
  refine List.forall_mem_cons.mpr ⟨ok_iconst F dL_law_179 (by decide) (by decide), ?_⟩
  refine List.forall_mem_cons.mpr ⟨ok_istore_n F dL_law_180 rfl (by decide) (by decide), ?_⟩
  refine List.forall_mem_cons.mpr ⟨ok_iinc F dL_law_181 (by decide) (by decide) (by decide), ?_⟩
  refine List.forall_mem_cons.mpr ⟨ok_goto F dL_law_184 (by decide) (by decide) (by decide), ?_⟩
  refine List.forall_mem_cons.mpr ⟨ok_iconst F dL_law_187 (by decide) (by decide), ?_⟩
  refine List.forall_mem_cons.mpr ⟨ok_istore F dL_law_188 (by decide) (by decide), ?_⟩
  refine List.forall_mem_cons.mpr ⟨ok_iload F dL_law_190 (by decide), ?_⟩
  refine List.forall_mem_cons.mpr ⟨ok_iconst F dL_law_192 (by decide) (by decide), ?_⟩
  refine List.forall_mem_cons.mpr ⟨ok_icmp_ge F dL_law_193 (by decide) (by decide) (by decide), ?_⟩
  refine List.forall_mem_cons.mpr ⟨ok_aload_n F dL_law_196 rfl (by decide), ?_⟩
  refine List.forall_mem_cons.mpr ⟨ok_bipush F dL_law_197 (by decide) (by decide), ?_⟩
  refine List.forall_mem_cons.mpr ⟨ok_iload F dL_law_199 (by decide), ?_⟩
  refine List.forall_mem_cons.mpr ⟨ok_iadd F dL_law_201 (by decide), ?_⟩
  refine List.forall_mem_cons.mpr ⟨ok_callT F Z (by decide +kernel) rfl (by decide) dL_law_202 (by show 202 + 3 < 100000; decide), ?_⟩
  refine List.forall_mem_cons.mpr ⟨ok_sipush F dL_law_205 (by decide) (by decide), ?_⟩
  refine List.forall_mem_cons.mpr ⟨ok_callS F spok_L_up (by decide +kernel) rfl (by decide) dL_law_208 (by decide), ?_⟩
  refine List.forall_mem_cons.mpr ⟨ok_istore F dL_law_211 (by decide) (by decide), ?_⟩
  refine List.forall_mem_cons.mpr ⟨ok_iload_n F dL_law_213 rfl (by decide), ?_⟩
  refine List.forall_mem_cons.mpr ⟨ok_if_eq F dL_law_214 (by decide) (by decide) (by decide), ?_⟩
  refine List.forall_mem_cons.mpr ⟨ok_aload_n F dL_law_217 rfl (by decide), ?_⟩
  refine List.forall_mem_cons.mpr ⟨ok_iload F dL_law_218 (by decide), ?_⟩
  refine List.forall_mem_cons.mpr ⟨ok_iload F dL_law_220 (by decide), ?_⟩
  refine List.forall_mem_cons.mpr ⟨ok_sipush F dL_law_222 (by decide) (by decide), ?_⟩
  refine List.forall_mem_cons.mpr ⟨ok_iload F dL_law_225 (by decide), ?_⟩
  refine List.forall_mem_cons.mpr ⟨ok_iadd F dL_law_227 (by decide), ?_⟩
  refine List.forall_mem_cons.mpr ⟨ok_callV F (spG_ok yX6_programme cX6_programme 4 (some .int) 4 fpW) ln_lw_F rcv_fpW (by decide +kernel) (by decide) dL_law_228 (by decide), ?_⟩
  refine List.forall_mem_cons.mpr ⟨ok_iload F dL_law_231 (by decide), ?_⟩
  refine List.forall_mem_cons.mpr ⟨ok_iconst F dL_law_233 (by decide) (by decide), ?_⟩
  refine List.forall_mem_cons.mpr ⟨ok_iadd F dL_law_234 (by decide), ?_⟩
  refine List.forall_mem_cons.mpr ⟨ok_icmp_ne F dL_law_235 (by decide) (by decide) (by decide), ?_⟩
  refine List.forall_mem_cons.mpr ⟨ok_iconst F dL_law_238 (by decide) (by decide), ?_⟩
  refine List.forall_mem_cons.mpr ⟨ok_goto F dL_law_239 (by decide) (by decide) (by decide), ?_⟩
  refine List.forall_mem_cons.mpr ⟨ok_iconst F dL_law_242 (by decide) (by decide), ?_⟩
  refine List.forall_mem_cons.mpr ⟨ok_istore_n F dL_law_243 rfl (by decide) (by decide), ?_⟩
  refine List.forall_mem_cons.mpr ⟨ok_iinc F dL_law_244 (by decide) (by decide) (by decide), ?_⟩
  refine List.forall_mem_cons.mpr ⟨ok_goto F dL_law_247 (by decide) (by decide) (by decide), ?_⟩
  refine List.forall_mem_cons.mpr ⟨ok_iconst F dL_law_250 (by decide) (by decide), ?_⟩
  refine List.forall_mem_cons.mpr ⟨ok_istore F dL_law_251 (by decide) (by decide), ?_⟩
  refine List.forall_mem_cons.mpr ⟨ok_iload F dL_law_253 (by decide), ?_⟩
  refine List.forall_mem_cons.mpr ⟨ok_iconst F dL_law_255 (by decide) (by decide), ?_⟩
  refine List.forall_mem_cons.mpr ⟨ok_icmp_ge F dL_law_256 (by decide) (by decide) (by decide), ?_⟩
  refine List.forall_mem_cons.mpr ⟨ok_aload_n F dL_law_259 rfl (by decide), ?_⟩
  refine List.forall_mem_cons.mpr ⟨ok_bipush F dL_law_260 (by decide) (by decide), ?_⟩
  refine List.forall_mem_cons.mpr ⟨ok_iload F dL_law_262 (by decide), ?_⟩
  refine List.forall_mem_cons.mpr ⟨ok_isub F dL_law_264 (by decide), ?_⟩
  refine List.forall_mem_cons.mpr ⟨ok_callT F Z (by decide +kernel) rfl (by decide) dL_law_265 (by show 265 + 3 < 100000; decide), ?_⟩
  refine List.forall_mem_cons.mpr ⟨ok_sipush F dL_law_268 (by decide) (by decide), ?_⟩
  refine List.forall_mem_cons.mpr ⟨ok_callS F spok_L_up (by decide +kernel) rfl (by decide) dL_law_271 (by decide), ?_⟩
  refine List.forall_mem_cons.mpr ⟨ok_istore F dL_law_274 (by decide) (by decide), ?_⟩
  refine List.forall_mem_cons.mpr ⟨ok_iload_n F dL_law_276 rfl (by decide), ?_⟩
  refine List.forall_mem_cons.mpr ⟨ok_if_eq F dL_law_277 (by decide) (by decide) (by decide), ?_⟩
  refine List.forall_mem_cons.mpr ⟨ok_aload_n F dL_law_280 rfl (by decide), ?_⟩
  refine List.forall_mem_cons.mpr ⟨ok_iload F dL_law_281 (by decide), ?_⟩
  refine List.forall_mem_cons.mpr ⟨ok_iload F dL_law_283 (by decide), ?_⟩
  refine List.forall_mem_cons.mpr ⟨ok_sipush F dL_law_285 (by decide) (by decide), ?_⟩
  refine List.forall_mem_cons.mpr ⟨ok_iload F dL_law_288 (by decide), ?_⟩
  refine List.forall_mem_cons.mpr ⟨ok_isub F dL_law_290 (by decide), ?_⟩
  refine List.forall_mem_cons.mpr ⟨ok_callV F (spG_ok yX6_programme cX6_programme 4 (some .int) 4 fpW) ln_lw_G rcv_fpW (by decide +kernel) (by decide) dL_law_291 (by decide), ?_⟩
  refine List.forall_mem_cons.mpr ⟨ok_iload F dL_law_294 (by decide), ?_⟩
  refine List.forall_mem_cons.mpr ⟨ok_iconst F dL_law_296 (by decide) (by decide), ?_⟩
  refine List.forall_mem_cons.mpr ⟨ok_iadd F dL_law_297 (by decide), ?_⟩
  refine List.forall_mem_cons.mpr ⟨ok_icmp_ne F dL_law_298 (by decide) (by decide) (by decide), ?_⟩
  refine List.forall_mem_cons.mpr ⟨ok_iconst F dL_law_301 (by decide) (by decide), ?_⟩
  refine List.forall_mem_cons.mpr ⟨ok_goto F dL_law_302 (by decide) (by decide) (by decide), ?_⟩
  refine List.forall_mem_cons.mpr ⟨ok_iconst F dL_law_305 (by decide) (by decide), ?_⟩
  refine List.forall_mem_cons.mpr ⟨ok_istore_n F dL_law_306 rfl (by decide) (by decide), ?_⟩
  refine List.forall_mem_cons.mpr ⟨ok_iinc F dL_law_307 (by decide) (by decide) (by decide), ?_⟩
  refine List.forall_mem_cons.mpr ⟨ok_goto F dL_law_310 (by decide) (by decide) (by decide), ?_⟩
  refine List.forall_mem_cons.mpr ⟨ok_iload_n F dL_law_313 rfl (by decide), ?_⟩
  refine List.forall_mem_cons.mpr ⟨ok_if_eq F dL_law_314 (by decide) (by decide) (by decide), ?_⟩
  refine List.forall_mem_cons.mpr ⟨ok_aload_n F dL_law_317 rfl (by decide), ?_⟩
  refine List.forall_mem_cons.mpr ⟨ok_bipush F dL_law_318 (by decide) (by decide), ?_⟩
  refine List.forall_mem_cons.mpr ⟨ok_aload_n F dL_law_320 rfl (by decide), ?_⟩
  refine List.forall_mem_cons.mpr ⟨ok_bipush F dL_law_321 (by decide) (by decide), ?_⟩
  refine List.forall_mem_cons.mpr ⟨ok_callT F Z (by decide +kernel) rfl (by decide) dL_law_323 (by show 323 + 3 < 100000; decide), ?_⟩
  refine List.forall_mem_cons.mpr ⟨ok_bipush F dL_law_326 (by decide) (by decide), ?_⟩
  refine List.forall_mem_cons.mpr ⟨ok_callS F spok_L_up (by decide +kernel) rfl (by decide) dL_law_328 (by decide), ?_⟩
  refine List.forall_mem_cons.mpr ⟨ok_callZ F Z.1 ln_lw_F rcv_fpW (by decide +kernel) (by decide) dL_law_331 (by decide), ?_⟩
  refine List.forall_mem_cons.mpr ⟨ok_if_ne F dL_law_334 (by decide) (by decide) (by decide), ?_⟩
  refine List.forall_mem_cons.mpr ⟨ok_aload_n F dL_law_337 rfl (by decide), ?_⟩
  refine List.forall_mem_cons.mpr ⟨ok_bipush F dL_law_338 (by decide) (by decide), ?_⟩
  refine List.forall_mem_cons.mpr ⟨ok_aload_n F dL_law_340 rfl (by decide), ?_⟩
  refine List.forall_mem_cons.mpr ⟨ok_bipush F dL_law_341 (by decide) (by decide), ?_⟩
  refine List.forall_mem_cons.mpr ⟨ok_callT F Z (by decide +kernel) rfl (by decide) dL_law_343 (by show 343 + 3 < 100000; decide), ?_⟩
  refine List.forall_mem_cons.mpr ⟨ok_bipush F dL_law_346 (by decide) (by decide), ?_⟩
  refine List.forall_mem_cons.mpr ⟨ok_callS F spok_L_up (by decide +kernel) rfl (by decide) dL_law_348 (by decide), ?_⟩
  refine List.forall_mem_cons.mpr ⟨ok_callZ F Z.2.1 ln_lw_G rcv_fpW (by decide +kernel) (by decide) dL_law_351 (by decide), ?_⟩
  refine List.forall_mem_cons.mpr ⟨ok_if_ne F dL_law_354 (by decide) (by decide) (by decide), ?_⟩
  refine List.forall_mem_cons.mpr ⟨ok_iconst F dL_law_357 (by decide) (by decide), ?_⟩
  refine List.forall_mem_cons.mpr ⟨ok_goto F dL_law_358 (by decide) (by decide) (by decide), ?_⟩
  refine List.forall_mem_cons.mpr ⟨ok_iconst F dL_law_361 (by decide) (by decide), ?_⟩
  refine List.forall_mem_cons.mpr ⟨ok_istore_n F dL_law_362 rfl (by decide) (by decide), ?_⟩
  refine List.forall_mem_cons.mpr ⟨ok_bipush F dL_law_363 (by decide) (by decide), ?_⟩
  refine List.forall_mem_cons.mpr ⟨ok_istore F dL_law_365 (by decide) (by decide), ?_⟩
  refine List.forall_mem_cons.mpr ⟨ok_iload F dL_law_367 (by decide), ?_⟩
  refine List.forall_mem_cons.mpr ⟨ok_bipush F dL_law_369 (by decide) (by decide), ?_⟩
  refine List.forall_mem_cons.mpr ⟨ok_icmp_ge F dL_law_371 (by decide) (by decide) (by decide), ?_⟩
  refine List.forall_mem_cons.mpr ⟨ok_iload_n F dL_law_374 rfl (by decide), ?_⟩
  refine List.forall_mem_cons.mpr ⟨ok_if_eq F dL_law_375 (by decide) (by decide) (by decide), ?_⟩
  refine List.forall_mem_cons.mpr ⟨ok_aload_n F dL_law_378 rfl (by decide), ?_⟩
  refine List.forall_mem_cons.mpr ⟨ok_aload_n F dL_law_379 rfl (by decide), ?_⟩
  refine List.forall_mem_cons.mpr ⟨ok_aload_n F dL_law_380 rfl (by decide), ?_⟩
  refine List.forall_mem_cons.mpr ⟨ok_iload F dL_law_381 (by decide), ?_⟩
  refine List.forall_mem_cons.mpr ⟨ok_callT F Z (by decide +kernel) rfl (by decide) dL_law_383 (by show 383 + 3 < 100000; decide), ?_⟩
  refine List.forall_mem_cons.mpr ⟨ok_callT F Z (by decide +kernel) rfl (by decide) dL_law_386 (by show 386 + 3 < 100000; decide), ?_⟩
  refine List.forall_mem_cons.mpr ⟨ok_if_eq F dL_law_389 (by decide) (by decide) (by decide), ?_⟩
  refine List.forall_mem_cons.mpr ⟨ok_aload_n F dL_law_392 rfl (by decide), ?_⟩
  refine List.forall_mem_cons.mpr ⟨ok_aload_n F dL_law_393 rfl (by decide), ?_⟩
  refine List.forall_mem_cons.mpr ⟨ok_callT F Z (by decide +kernel) rfl (by decide) dL_law_394 (by show 394 + 3 < 100000; decide), ?_⟩
  refine List.forall_mem_cons.mpr ⟨ok_if_eq F dL_law_397 (by decide) (by decide) (by decide), ?_⟩
  refine List.forall_mem_cons.mpr ⟨ok_aload_n F dL_law_400 rfl (by decide), ?_⟩
  refine List.forall_mem_cons.mpr ⟨ok_callT F Z (by decide +kernel) rfl (by decide) dL_law_401 (by show 401 + 3 < 100000; decide), ?_⟩
  refine List.forall_mem_cons.mpr ⟨ok_if_eq F dL_law_404 (by decide) (by decide) (by decide), ?_⟩
  refine List.forall_mem_cons.mpr ⟨ok_iconst F dL_law_407 (by decide) (by decide), ?_⟩
  refine List.forall_mem_cons.mpr ⟨ok_goto F dL_law_408 (by decide) (by decide) (by decide), ?_⟩
  refine List.forall_mem_cons.mpr ⟨ok_iconst F dL_law_411 (by decide) (by decide), ?_⟩
  refine List.forall_mem_cons.mpr ⟨ok_istore_n F dL_law_412 rfl (by decide) (by decide), ?_⟩
  refine List.forall_mem_cons.mpr ⟨ok_iinc F dL_law_413 (by decide) (by decide) (by decide), ?_⟩
  refine List.forall_mem_cons.mpr ⟨ok_goto F dL_law_416 (by decide) (by decide) (by decide), ?_⟩
  refine List.forall_mem_cons.mpr ⟨ok_iload_n F dL_law_419 rfl (by decide), ?_⟩
  refine List.forall_mem_cons.mpr ⟨ok_if_eq F dL_law_420 (by decide) (by decide) (by decide), ?_⟩
  refine List.forall_mem_cons.mpr ⟨ok_aload_n F dL_law_423 rfl (by decide), ?_⟩
  refine List.forall_mem_cons.mpr ⟨ok_callT F Z (by decide +kernel) rfl (by decide) dL_law_424 (by show 424 + 3 < 100000; decide), ?_⟩
  refine List.forall_mem_cons.mpr ⟨ok_if_eq F dL_law_427 (by decide) (by decide) (by decide), ?_⟩
  refine List.forall_mem_cons.mpr ⟨ok_iconst F dL_law_430 (by decide) (by decide), ?_⟩
  refine List.forall_mem_cons.mpr ⟨ok_goto F dL_law_431 (by decide) (by decide) (by decide), ?_⟩
  refine List.forall_mem_cons.mpr ⟨ok_iconst F dL_law_434 (by decide) (by decide), ?_⟩
  exact fun _ h => absurd h List.not_mem_nil
set_option maxRecDepth 100000 in
theorem w_L_law (N : Nat) (xs : Nat → Int32) : (∀ (K : Kt LT) (k : Nat) (L : xL) (st : List Value) (S : LT), nx (cod_L_law N xs) cut_L_law K (k + 1) 16 L st S = (O_int 1 1) (nx (cod_L_law N xs) cut_L_law K k) 16 L st S) ∧
  (∀ (K : Kt LT) (k : Nat) (L : xL) (st : List Value) (S : LT), nx (cod_L_law N xs) cut_L_law K (k + 1) 17 L st S = (O_istore 3 1) (nx (cod_L_law N xs) cut_L_law K k) 17 L st S) ∧
  (∀ (K : Kt LT) (k : Nat) (L : xL) (st : List Value) (S : LT), nx (cod_L_law N xs) cut_L_law K (k + 1) 18 L st S = (O_int 0 1) (nx (cod_L_law N xs) cut_L_law K k) 18 L st S) ∧
  (∀ (K : Kt LT) (k : Nat) (L : xL) (st : List Value) (S : LT), nx (cod_L_law N xs) cut_L_law K (k + 1) 19 L st S = (O_istore 4 2) (nx (cod_L_law N xs) cut_L_law K k) 19 L st S) ∧
  (∀ (K : Kt LT) (k : Nat) (L : xL) (st : List Value) (S : LT), nx (cod_L_law N xs) cut_L_law K (k + 1) 21 L st S = K 21 L st S) ∧
  (∀ (K : Kt LT) (k : Nat) (L : xL) (st : List Value) (S : LT), nx1 (cod_L_law N xs) cut_L_law K k 21 L st S = (O_iload 4 2) (nx (cod_L_law N xs) cut_L_law K k) 21 L st S) ∧
  (∀ (K : Kt LT) (k : Nat) (L : xL) (st : List Value) (S : LT), nx (cod_L_law N xs) cut_L_law K (k + 1) 23 L st S = (O_int 3 1) (nx (cod_L_law N xs) cut_L_law K k) 23 L st S) ∧
  (∀ (K : Kt LT) (k : Nat) (L : xL) (st : List Value) (S : LT), nx (cod_L_law N xs) cut_L_law K (k + 1) 24 L st S = (O_icmp_ge 187) (nx (cod_L_law N xs) cut_L_law K k) 24 L st S) ∧
  (∀ (K : Kt LT) (k : Nat) (L : xL) (st : List Value) (S : LT), nx (cod_L_law N xs) cut_L_law K (k + 1) 27 L st S = (O_aload 0 1) (nx (cod_L_law N xs) cut_L_law K k) 27 L st S) ∧
  (∀ (K : Kt LT) (k : Nat) (L : xL) (st : List Value) (S : LT), nx (cod_L_law N xs) cut_L_law K (k + 1) 28 L st S = (O_iload 4 2) (nx (cod_L_law N xs) cut_L_law K k) 28 L st S) ∧
  (∀ (K : Kt LT) (k : Nat) (L : xL) (st : List Value) (S : LT), nx (cod_L_law N xs) cut_L_law K (k + 1) 30 L st S = (O_callT N xs 2 yL_cell cL_cell 2 (some .int) 0 lW) (nx (cod_L_law N xs) cut_L_law K k) 30 L st S) ∧
  (∀ (K : Kt LT) (k : Nat) (L : xL) (st : List Value) (S : LT), nx (cod_L_law N xs) cut_L_law K (k + 1) 33 L st S = (O_istore 5 2) (nx (cod_L_law N xs) cut_L_law K k) 33 L st S) ∧
  (∀ (K : Kt LT) (k : Nat) (L : xL) (st : List Value) (S : LT), nx (cod_L_law N xs) cut_L_law K (k + 1) 35 L st S = (O_iload 5 2) (nx (cod_L_law N xs) cut_L_law K k) 35 L st S) ∧
  (∀ (K : Kt LT) (k : Nat) (L : xL) (st : List Value) (S : LT), nx (cod_L_law N xs) cut_L_law K (k + 1) 37 L st S = (O_int 3 1) (nx (cod_L_law N xs) cut_L_law K k) 37 L st S) ∧
  (∀ (K : Kt LT) (k : Nat) (L : xL) (st : List Value) (S : LT), nx (cod_L_law N xs) cut_L_law K (k + 1) 38 L st S = (O_callS 2 sp_L_up) (nx (cod_L_law N xs) cut_L_law K k) 38 L st S) ∧
  (∀ (K : Kt LT) (k : Nat) (L : xL) (st : List Value) (S : LT), nx (cod_L_law N xs) cut_L_law K (k + 1) 41 L st S = (O_istore 6 2) (nx (cod_L_law N xs) cut_L_law K k) 41 L st S) ∧
  (∀ (K : Kt LT) (k : Nat) (L : xL) (st : List Value) (S : LT), nx (cod_L_law N xs) cut_L_law K (k + 1) 43 L st S = (O_int 400 3) (nx (cod_L_law N xs) cut_L_law K k) 43 L st S) ∧
  (∀ (K : Kt LT) (k : Nat) (L : xL) (st : List Value) (S : LT), nx (cod_L_law N xs) cut_L_law K (k + 1) 46 L st S = (O_iload 5 2) (nx (cod_L_law N xs) cut_L_law K k) 46 L st S) ∧
  (∀ (K : Kt LT) (k : Nat) (L : xL) (st : List Value) (S : LT), nx (cod_L_law N xs) cut_L_law K (k + 1) 48 L st S = (O_int 2 1) (nx (cod_L_law N xs) cut_L_law K k) 48 L st S) ∧
  (∀ (K : Kt LT) (k : Nat) (L : xL) (st : List Value) (S : LT), nx (cod_L_law N xs) cut_L_law K (k + 1) 49 L st S = (O_ishr) (nx (cod_L_law N xs) cut_L_law K k) 49 L st S) ∧
  (∀ (K : Kt LT) (k : Nat) (L : xL) (st : List Value) (S : LT), nx (cod_L_law N xs) cut_L_law K (k + 1) 50 L st S = (O_int 900 3) (nx (cod_L_law N xs) cut_L_law K k) 50 L st S) ∧
  (∀ (K : Kt LT) (k : Nat) (L : xL) (st : List Value) (S : LT), nx (cod_L_law N xs) cut_L_law K (k + 1) 53 L st S = (O_callS 2 sp_L_up) (nx (cod_L_law N xs) cut_L_law K k) 53 L st S) ∧
  (∀ (K : Kt LT) (k : Nat) (L : xL) (st : List Value) (S : LT), nx (cod_L_law N xs) cut_L_law K (k + 1) 56 L st S = (O_iadd) (nx (cod_L_law N xs) cut_L_law K k) 56 L st S) ∧
  (∀ (K : Kt LT) (k : Nat) (L : xL) (st : List Value) (S : LT), nx (cod_L_law N xs) cut_L_law K (k + 1) 57 L st S = (O_istore 7 2) (nx (cod_L_law N xs) cut_L_law K k) 57 L st S) ∧
  (∀ (K : Kt LT) (k : Nat) (L : xL) (st : List Value) (S : LT), nx (cod_L_law N xs) cut_L_law K (k + 1) 59 L st S = (O_iload 3 1) (nx (cod_L_law N xs) cut_L_law K k) 59 L st S) ∧
  (∀ (K : Kt LT) (k : Nat) (L : xL) (st : List Value) (S : LT), nx (cod_L_law N xs) cut_L_law K (k + 1) 60 L st S = (O_if_eq 117) (nx (cod_L_law N xs) cut_L_law K k) 60 L st S) ∧
  (∀ (K : Kt LT) (k : Nat) (L : xL) (st : List Value) (S : LT), nx (cod_L_law N xs) cut_L_law K (k + 1) 63 L st S = (O_aload 1 1) (nx (cod_L_law N xs) cut_L_law K k) 63 L st S) ∧
  (∀ (K : Kt LT) (k : Nat) (L : xL) (st : List Value) (S : LT), nx (cod_L_law N xs) cut_L_law K (k + 1) 64 L st S = (O_iload 6 2) (nx (cod_L_law N xs) cut_L_law K k) 64 L st S) ∧
  (∀ (K : Kt LT) (k : Nat) (L : xL) (st : List Value) (S : LT), nx (cod_L_law N xs) cut_L_law K (k + 1) 66 L st S = (O_iload 7 2) (nx (cod_L_law N xs) cut_L_law K k) 66 L st S) ∧
  (∀ (K : Kt LT) (k : Nat) (L : xL) (st : List Value) (S : LT), nx (cod_L_law N xs) cut_L_law K (k + 1) 68 L st S = (O_int 1 1) (nx (cod_L_law N xs) cut_L_law K k) 68 L st S) ∧
  (∀ (K : Kt LT) (k : Nat) (L : xL) (st : List Value) (S : LT), nx (cod_L_law N xs) cut_L_law K (k + 1) 69 L st S = (O_iload 5 2) (nx (cod_L_law N xs) cut_L_law K k) 69 L st S) ∧
  (∀ (K : Kt LT) (k : Nat) (L : xL) (st : List Value) (S : LT), nx (cod_L_law N xs) cut_L_law K (k + 1) 71 L st S = (O_int 12 2) (nx (cod_L_law N xs) cut_L_law K k) 71 L st S) ∧
  (∀ (K : Kt LT) (k : Nat) (L : xL) (st : List Value) (S : LT), nx (cod_L_law N xs) cut_L_law K (k + 1) 73 L st S = (O_ishr) (nx (cod_L_law N xs) cut_L_law K k) 73 L st S) ∧
  (∀ (K : Kt LT) (k : Nat) (L : xL) (st : List Value) (S : LT), nx (cod_L_law N xs) cut_L_law K (k + 1) 74 L st S = (O_int 80 2) (nx (cod_L_law N xs) cut_L_law K k) 74 L st S) ∧
  (∀ (K : Kt LT) (k : Nat) (L : xL) (st : List Value) (S : LT), nx (cod_L_law N xs) cut_L_law K (k + 1) 76 L st S = (O_callS 2 sp_L_up) (nx (cod_L_law N xs) cut_L_law K k) 76 L st S) ∧
  (∀ (K : Kt LT) (k : Nat) (L : xL) (st : List Value) (S : LT), nx (cod_L_law N xs) cut_L_law K (k + 1) 79 L st S = (O_iadd) (nx (cod_L_law N xs) cut_L_law K k) 79 L st S) ∧
  (∀ (K : Kt LT) (k : Nat) (L : xL) (st : List Value) (S : LT), nx (cod_L_law N xs) cut_L_law K (k + 1) 80 L st S = (O_callV 3 0 (fun S : LT => S.1) (fun S F => (F, S.2)) (spG yX6_pump cX6_pump 4 (some .int) 4 fpW)) (nx (cod_L_law N xs) cut_L_law K k) 80 L st S) ∧
  (∀ (K : Kt LT) (k : Nat) (L : xL) (st : List Value) (S : LT), nx (cod_L_law N xs) cut_L_law K (k + 1) 83 L st S = (O_iload 4 2) (nx (cod_L_law N xs) cut_L_law K k) 83 L st S) ∧
  (∀ (K : Kt LT) (k : Nat) (L : xL) (st : List Value) (S : LT), nx (cod_L_law N xs) cut_L_law K (k + 1) 85 L st S = (O_icmp_ne 117) (nx (cod_L_law N xs) cut_L_law K k) 85 L st S) ∧
  (∀ (K : Kt LT) (k : Nat) (L : xL) (st : List Value) (S : LT), nx (cod_L_law N xs) cut_L_law K (k + 1) 88 L st S = (O_aload 2 1) (nx (cod_L_law N xs) cut_L_law K k) 88 L st S) ∧
  (∀ (K : Kt LT) (k : Nat) (L : xL) (st : List Value) (S : LT), nx (cod_L_law N xs) cut_L_law K (k + 1) 89 L st S = (O_iload 6 2) (nx (cod_L_law N xs) cut_L_law K k) 89 L st S) ∧
  (∀ (K : Kt LT) (k : Nat) (L : xL) (st : List Value) (S : LT), nx (cod_L_law N xs) cut_L_law K (k + 1) 91 L st S = (O_iload 7 2) (nx (cod_L_law N xs) cut_L_law K k) 91 L st S) ∧
  (∀ (K : Kt LT) (k : Nat) (L : xL) (st : List Value) (S : LT), nx (cod_L_law N xs) cut_L_law K (k + 1) 93 L st S = (O_int 1 1) (nx (cod_L_law N xs) cut_L_law K k) 93 L st S) ∧
  (∀ (K : Kt LT) (k : Nat) (L : xL) (st : List Value) (S : LT), nx (cod_L_law N xs) cut_L_law K (k + 1) 94 L st S = (O_iload 5 2) (nx (cod_L_law N xs) cut_L_law K k) 94 L st S) ∧
  (∀ (K : Kt LT) (k : Nat) (L : xL) (st : List Value) (S : LT), nx (cod_L_law N xs) cut_L_law K (k + 1) 96 L st S = (O_int 12 2) (nx (cod_L_law N xs) cut_L_law K k) 96 L st S) ∧
  (∀ (K : Kt LT) (k : Nat) (L : xL) (st : List Value) (S : LT), nx (cod_L_law N xs) cut_L_law K (k + 1) 98 L st S = (O_ishr) (nx (cod_L_law N xs) cut_L_law K k) 98 L st S) ∧
  (∀ (K : Kt LT) (k : Nat) (L : xL) (st : List Value) (S : LT), nx (cod_L_law N xs) cut_L_law K (k + 1) 99 L st S = (O_int 80 2) (nx (cod_L_law N xs) cut_L_law K k) 99 L st S) ∧
  (∀ (K : Kt LT) (k : Nat) (L : xL) (st : List Value) (S : LT), nx (cod_L_law N xs) cut_L_law K (k + 1) 101 L st S = (O_callS 2 sp_L_up) (nx (cod_L_law N xs) cut_L_law K k) 101 L st S) ∧
  (∀ (K : Kt LT) (k : Nat) (L : xL) (st : List Value) (S : LT), nx (cod_L_law N xs) cut_L_law K (k + 1) 104 L st S = (O_iadd) (nx (cod_L_law N xs) cut_L_law K k) 104 L st S) ∧
  (∀ (K : Kt LT) (k : Nat) (L : xL) (st : List Value) (S : LT), nx (cod_L_law N xs) cut_L_law K (k + 1) 105 L st S = (O_callV 3 148 (fun S : LT => S.2) (fun S G => (S.1, G)) (spG yX6_pump cX6_pump 4 (some .int) 4 fpW)) (nx (cod_L_law N xs) cut_L_law K k) 105 L st S) ∧
  (∀ (K : Kt LT) (k : Nat) (L : xL) (st : List Value) (S : LT), nx (cod_L_law N xs) cut_L_law K (k + 1) 108 L st S = (O_iload 4 2) (nx (cod_L_law N xs) cut_L_law K k) 108 L st S) ∧
  (∀ (K : Kt LT) (k : Nat) (L : xL) (st : List Value) (S : LT), nx (cod_L_law N xs) cut_L_law K (k + 1) 110 L st S = (O_icmp_ne 117) (nx (cod_L_law N xs) cut_L_law K k) 110 L st S) ∧
  (∀ (K : Kt LT) (k : Nat) (L : xL) (st : List Value) (S : LT), nx (cod_L_law N xs) cut_L_law K (k + 1) 113 L st S = (O_int 1 1) (nx (cod_L_law N xs) cut_L_law K k) 113 L st S) ∧
  (∀ (K : Kt LT) (k : Nat) (L : xL) (st : List Value) (S : LT), nx (cod_L_law N xs) cut_L_law K (k + 1) 114 L st S = (O_goto 118) (nx (cod_L_law N xs) cut_L_law K k) 114 L st S) ∧
  (∀ (K : Kt LT) (k : Nat) (L : xL) (st : List Value) (S : LT), nx (cod_L_law N xs) cut_L_law K (k + 1) 117 L st S = K 117 L st S) ∧
  (∀ (K : Kt LT) (k : Nat) (L : xL) (st : List Value) (S : LT), nx1 (cod_L_law N xs) cut_L_law K k 117 L st S = (O_int 0 1) (nx (cod_L_law N xs) cut_L_law K k) 117 L st S) ∧
  (∀ (K : Kt LT) (k : Nat) (L : xL) (st : List Value) (S : LT), nx (cod_L_law N xs) cut_L_law K (k + 1) 118 L st S = (O_istore 3 1) (nx (cod_L_law N xs) cut_L_law K k) 118 L st S) ∧
  (∀ (K : Kt LT) (k : Nat) (L : xL) (st : List Value) (S : LT), nx (cod_L_law N xs) cut_L_law K (k + 1) 119 L st S = K 119 L st S) ∧
  (∀ (K : Kt LT) (k : Nat) (L : xL) (st : List Value) (S : LT), nx1 (cod_L_law N xs) cut_L_law K k 119 L st S = (O_iload 3 1) (nx (cod_L_law N xs) cut_L_law K k) 119 L st S) ∧
  (∀ (K : Kt LT) (k : Nat) (L : xL) (st : List Value) (S : LT), nx (cod_L_law N xs) cut_L_law K (k + 1) 120 L st S = (O_if_eq 179) (nx (cod_L_law N xs) cut_L_law K k) 120 L st S) ∧
  (∀ (K : Kt LT) (k : Nat) (L : xL) (st : List Value) (S : LT), nx (cod_L_law N xs) cut_L_law K (k + 1) 123 L st S = (O_aload 1 1) (nx (cod_L_law N xs) cut_L_law K k) 123 L st S) ∧
  (∀ (K : Kt LT) (k : Nat) (L : xL) (st : List Value) (S : LT), nx (cod_L_law N xs) cut_L_law K (k + 1) 124 L st S = (O_int 10 2) (nx (cod_L_law N xs) cut_L_law K k) 124 L st S) ∧
  (∀ (K : Kt LT) (k : Nat) (L : xL) (st : List Value) (S : LT), nx (cod_L_law N xs) cut_L_law K (k + 1) 126 L st S = (O_aload 0 1) (nx (cod_L_law N xs) cut_L_law K k) 126 L st S) ∧
  (∀ (K : Kt LT) (k : Nat) (L : xL) (st : List Value) (S : LT), nx (cod_L_law N xs) cut_L_law K (k + 1) 127 L st S = (O_int 3 1) (nx (cod_L_law N xs) cut_L_law K k) 127 L st S) ∧
  (∀ (K : Kt LT) (k : Nat) (L : xL) (st : List Value) (S : LT), nx (cod_L_law N xs) cut_L_law K (k + 1) 128 L st S = (O_iload 4 2) (nx (cod_L_law N xs) cut_L_law K k) 128 L st S) ∧
  (∀ (K : Kt LT) (k : Nat) (L : xL) (st : List Value) (S : LT), nx (cod_L_law N xs) cut_L_law K (k + 1) 130 L st S = (O_iadd) (nx (cod_L_law N xs) cut_L_law K k) 130 L st S) ∧
  (∀ (K : Kt LT) (k : Nat) (L : xL) (st : List Value) (S : LT), nx (cod_L_law N xs) cut_L_law K (k + 1) 131 L st S = (O_callT N xs 2 yL_cell cL_cell 2 (some .int) 0 lW) (nx (cod_L_law N xs) cut_L_law K k) 131 L st S) ∧
  (∀ (K : Kt LT) (k : Nat) (L : xL) (st : List Value) (S : LT), nx (cod_L_law N xs) cut_L_law K (k + 1) 134 L st S = (O_int 400 3) (nx (cod_L_law N xs) cut_L_law K k) 134 L st S) ∧
  (∀ (K : Kt LT) (k : Nat) (L : xL) (st : List Value) (S : LT), nx (cod_L_law N xs) cut_L_law K (k + 1) 137 L st S = (O_callS 2 sp_L_up) (nx (cod_L_law N xs) cut_L_law K k) 137 L st S) ∧
  (∀ (K : Kt LT) (k : Nat) (L : xL) (st : List Value) (S : LT), nx (cod_L_law N xs) cut_L_law K (k + 1) 140 L st S = (O_iadd) (nx (cod_L_law N xs) cut_L_law K k) 140 L st S) ∧
  (∀ (K : Kt LT) (k : Nat) (L : xL) (st : List Value) (S : LT), nx (cod_L_law N xs) cut_L_law K (k + 1) 141 L st S = (O_callV 1 0 (fun S : LT => S.1) (fun S F => (F, S.2)) (spG yX6_zone cX6_zone 2 (some .int) 4 fpW)) (nx (cod_L_law N xs) cut_L_law K k) 141 L st S) ∧
  (∀ (K : Kt LT) (k : Nat) (L : xL) (st : List Value) (S : LT), nx (cod_L_law N xs) cut_L_law K (k + 1) 144 L st S = (O_iload 4 2) (nx (cod_L_law N xs) cut_L_law K k) 144 L st S) ∧
  (∀ (K : Kt LT) (k : Nat) (L : xL) (st : List Value) (S : LT), nx (cod_L_law N xs) cut_L_law K (k + 1) 146 L st S = (O_icmp_ne 179) (nx (cod_L_law N xs) cut_L_law K k) 146 L st S) ∧
  (∀ (K : Kt LT) (k : Nat) (L : xL) (st : List Value) (S : LT), nx (cod_L_law N xs) cut_L_law K (k + 1) 149 L st S = (O_aload 2 1) (nx (cod_L_law N xs) cut_L_law K k) 149 L st S) ∧
  (∀ (K : Kt LT) (k : Nat) (L : xL) (st : List Value) (S : LT), nx (cod_L_law N xs) cut_L_law K (k + 1) 150 L st S = (O_int 10 2) (nx (cod_L_law N xs) cut_L_law K k) 150 L st S) ∧
  (∀ (K : Kt LT) (k : Nat) (L : xL) (st : List Value) (S : LT), nx (cod_L_law N xs) cut_L_law K (k + 1) 152 L st S = (O_aload 0 1) (nx (cod_L_law N xs) cut_L_law K k) 152 L st S) ∧
  (∀ (K : Kt LT) (k : Nat) (L : xL) (st : List Value) (S : LT), nx (cod_L_law N xs) cut_L_law K (k + 1) 153 L st S = (O_int 5 1) (nx (cod_L_law N xs) cut_L_law K k) 153 L st S) ∧
  (∀ (K : Kt LT) (k : Nat) (L : xL) (st : List Value) (S : LT), nx (cod_L_law N xs) cut_L_law K (k + 1) 154 L st S = (O_iload 4 2) (nx (cod_L_law N xs) cut_L_law K k) 154 L st S) ∧
  (∀ (K : Kt LT) (k : Nat) (L : xL) (st : List Value) (S : LT), nx (cod_L_law N xs) cut_L_law K (k + 1) 156 L st S = (O_isub) (nx (cod_L_law N xs) cut_L_law K k) 156 L st S) ∧
  (∀ (K : Kt LT) (k : Nat) (L : xL) (st : List Value) (S : LT), nx (cod_L_law N xs) cut_L_law K (k + 1) 157 L st S = (O_callT N xs 2 yL_cell cL_cell 2 (some .int) 0 lW) (nx (cod_L_law N xs) cut_L_law K k) 157 L st S) ∧
  (∀ (K : Kt LT) (k : Nat) (L : xL) (st : List Value) (S : LT), nx (cod_L_law N xs) cut_L_law K (k + 1) 160 L st S = (O_int 400 3) (nx (cod_L_law N xs) cut_L_law K k) 160 L st S) ∧
  (∀ (K : Kt LT) (k : Nat) (L : xL) (st : List Value) (S : LT), nx (cod_L_law N xs) cut_L_law K (k + 1) 163 L st S = (O_callS 2 sp_L_up) (nx (cod_L_law N xs) cut_L_law K k) 163 L st S) ∧
  (∀ (K : Kt LT) (k : Nat) (L : xL) (st : List Value) (S : LT), nx (cod_L_law N xs) cut_L_law K (k + 1) 166 L st S = (O_iadd) (nx (cod_L_law N xs) cut_L_law K k) 166 L st S) ∧
  (∀ (K : Kt LT) (k : Nat) (L : xL) (st : List Value) (S : LT), nx (cod_L_law N xs) cut_L_law K (k + 1) 167 L st S = (O_callV 1 148 (fun S : LT => S.2) (fun S G => (S.1, G)) (spG yX6_zone cX6_zone 2 (some .int) 4 fpW)) (nx (cod_L_law N xs) cut_L_law K k) 167 L st S) ∧
  (∀ (K : Kt LT) (k : Nat) (L : xL) (st : List Value) (S : LT), nx (cod_L_law N xs) cut_L_law K (k + 1) 170 L st S = (O_iload 4 2) (nx (cod_L_law N xs) cut_L_law K k) 170 L st S) ∧
  (∀ (K : Kt LT) (k : Nat) (L : xL) (st : List Value) (S : LT), nx (cod_L_law N xs) cut_L_law K (k + 1) 172 L st S = (O_icmp_ne 179) (nx (cod_L_law N xs) cut_L_law K k) 172 L st S) ∧
  (∀ (K : Kt LT) (k : Nat) (L : xL) (st : List Value) (S : LT), nx (cod_L_law N xs) cut_L_law K (k + 1) 175 L st S = (O_int 1 1) (nx (cod_L_law N xs) cut_L_law K k) 175 L st S) ∧
  (∀ (K : Kt LT) (k : Nat) (L : xL) (st : List Value) (S : LT), nx (cod_L_law N xs) cut_L_law K (k + 1) 176 L st S = (O_goto 180) (nx (cod_L_law N xs) cut_L_law K k) 176 L st S) ∧
  (∀ (K : Kt LT) (k : Nat) (L : xL) (st : List Value) (S : LT), nx (cod_L_law N xs) cut_L_law K (k + 1) 179 L st S = K 179 L st S) ∧
  (∀ (K : Kt LT) (k : Nat) (L : xL) (st : List Value) (S : LT), nx1 (cod_L_law N xs) cut_L_law K k 179 L st S = (O_int 0 1) (nx (cod_L_law N xs) cut_L_law K k) 179 L st S) ∧
  (∀ (K : Kt LT) (k : Nat) (L : xL) (st : List Value) (S : LT), nx (cod_L_law N xs) cut_L_law K (k + 1) 180 L st S = (O_istore 3 1) (nx (cod_L_law N xs) cut_L_law K k) 180 L st S) ∧
  (∀ (K : Kt LT) (k : Nat) (L : xL) (st : List Value) (S : LT), nx (cod_L_law N xs) cut_L_law K (k + 1) 181 L st S = (O_iinc 4 1) (nx (cod_L_law N xs) cut_L_law K k) 181 L st S) ∧
  (∀ (K : Kt LT) (k : Nat) (L : xL) (st : List Value) (S : LT), nx (cod_L_law N xs) cut_L_law K (k + 1) 184 L st S = (O_goto 21) (nx (cod_L_law N xs) cut_L_law K k) 184 L st S) ∧
  (∀ (K : Kt LT) (k : Nat) (L : xL) (st : List Value) (S : LT), nx (cod_L_law N xs) cut_L_law K (k + 1) 187 L st S = (O_int 0 1) (nx (cod_L_law N xs) cut_L_law K k) 187 L st S) ∧
  (∀ (K : Kt LT) (k : Nat) (L : xL) (st : List Value) (S : LT), nx (cod_L_law N xs) cut_L_law K (k + 1) 188 L st S = (O_istore 4 2) (nx (cod_L_law N xs) cut_L_law K k) 188 L st S) ∧
  (∀ (K : Kt LT) (k : Nat) (L : xL) (st : List Value) (S : LT), nx (cod_L_law N xs) cut_L_law K (k + 1) 190 L st S = K 190 L st S) ∧
  (∀ (K : Kt LT) (k : Nat) (L : xL) (st : List Value) (S : LT), nx1 (cod_L_law N xs) cut_L_law K k 190 L st S = (O_iload 4 2) (nx (cod_L_law N xs) cut_L_law K k) 190 L st S) ∧
  (∀ (K : Kt LT) (k : Nat) (L : xL) (st : List Value) (S : LT), nx (cod_L_law N xs) cut_L_law K (k + 1) 192 L st S = (O_int 3 1) (nx (cod_L_law N xs) cut_L_law K k) 192 L st S) ∧
  (∀ (K : Kt LT) (k : Nat) (L : xL) (st : List Value) (S : LT), nx (cod_L_law N xs) cut_L_law K (k + 1) 193 L st S = (O_icmp_ge 250) (nx (cod_L_law N xs) cut_L_law K k) 193 L st S) ∧
  (∀ (K : Kt LT) (k : Nat) (L : xL) (st : List Value) (S : LT), nx (cod_L_law N xs) cut_L_law K (k + 1) 196 L st S = (O_aload 0 1) (nx (cod_L_law N xs) cut_L_law K k) 196 L st S) ∧
  (∀ (K : Kt LT) (k : Nat) (L : xL) (st : List Value) (S : LT), nx (cod_L_law N xs) cut_L_law K (k + 1) 197 L st S = (O_int 6 2) (nx (cod_L_law N xs) cut_L_law K k) 197 L st S) ∧
  (∀ (K : Kt LT) (k : Nat) (L : xL) (st : List Value) (S : LT), nx (cod_L_law N xs) cut_L_law K (k + 1) 199 L st S = (O_iload 4 2) (nx (cod_L_law N xs) cut_L_law K k) 199 L st S) ∧
  (∀ (K : Kt LT) (k : Nat) (L : xL) (st : List Value) (S : LT), nx (cod_L_law N xs) cut_L_law K (k + 1) 201 L st S = (O_iadd) (nx (cod_L_law N xs) cut_L_law K k) 201 L st S) ∧
  (∀ (K : Kt LT) (k : Nat) (L : xL) (st : List Value) (S : LT), nx (cod_L_law N xs) cut_L_law K (k + 1) 202 L st S = (O_callT N xs 2 yL_cell cL_cell 2 (some .int) 0 lW) (nx (cod_L_law N xs) cut_L_law K k) 202 L st S) ∧
  (∀ (K : Kt LT) (k : Nat) (L : xL) (st : List Value) (S : LT), nx (cod_L_law N xs) cut_L_law K (k + 1) 205 L st S = (O_int 200 3) (nx (cod_L_law N xs) cut_L_law K k) 205 L st S) ∧
  (∀ (K : Kt LT) (k : Nat) (L : xL) (st : List Value) (S : LT), nx (cod_L_law N xs) cut_L_law K (k + 1) 208 L st S = (O_callS 2 sp_L_up) (nx (cod_L_law N xs) cut_L_law K k) 208 L st S) ∧
  (∀ (K : Kt LT) (k : Nat) (L : xL) (st : List Value) (S : LT), nx (cod_L_law N xs) cut_L_law K (k + 1) 211 L st S = (O_istore 5 2) (nx (cod_L_law N xs) cut_L_law K k) 211 L st S) ∧
  (∀ (K : Kt LT) (k : Nat) (L : xL) (st : List Value) (S : LT), nx (cod_L_law N xs) cut_L_law K (k + 1) 213 L st S = (O_iload 3 1) (nx (cod_L_law N xs) cut_L_law K k) 213 L st S) ∧
  (∀ (K : Kt LT) (k : Nat) (L : xL) (st : List Value) (S : LT), nx (cod_L_law N xs) cut_L_law K (k + 1) 214 L st S = (O_if_eq 242) (nx (cod_L_law N xs) cut_L_law K k) 214 L st S) ∧
  (∀ (K : Kt LT) (k : Nat) (L : xL) (st : List Value) (S : LT), nx (cod_L_law N xs) cut_L_law K (k + 1) 217 L st S = (O_aload 1 1) (nx (cod_L_law N xs) cut_L_law K k) 217 L st S) ∧
  (∀ (K : Kt LT) (k : Nat) (L : xL) (st : List Value) (S : LT), nx (cod_L_law N xs) cut_L_law K (k + 1) 218 L st S = (O_iload 4 2) (nx (cod_L_law N xs) cut_L_law K k) 218 L st S) ∧
  (∀ (K : Kt LT) (k : Nat) (L : xL) (st : List Value) (S : LT), nx (cod_L_law N xs) cut_L_law K (k + 1) 220 L st S = (O_iload 5 2) (nx (cod_L_law N xs) cut_L_law K k) 220 L st S) ∧
  (∀ (K : Kt LT) (k : Nat) (L : xL) (st : List Value) (S : LT), nx (cod_L_law N xs) cut_L_law K (k + 1) 222 L st S = (O_int 200 3) (nx (cod_L_law N xs) cut_L_law K k) 222 L st S) ∧
  (∀ (K : Kt LT) (k : Nat) (L : xL) (st : List Value) (S : LT), nx (cod_L_law N xs) cut_L_law K (k + 1) 225 L st S = (O_iload 4 2) (nx (cod_L_law N xs) cut_L_law K k) 225 L st S) ∧
  (∀ (K : Kt LT) (k : Nat) (L : xL) (st : List Value) (S : LT), nx (cod_L_law N xs) cut_L_law K (k + 1) 227 L st S = (O_iadd) (nx (cod_L_law N xs) cut_L_law K k) 227 L st S) ∧
  (∀ (K : Kt LT) (k : Nat) (L : xL) (st : List Value) (S : LT), nx (cod_L_law N xs) cut_L_law K (k + 1) 228 L st S = (O_callV 3 0 (fun S : LT => S.1) (fun S F => (F, S.2)) (spG yX6_programme cX6_programme 4 (some .int) 4 fpW)) (nx (cod_L_law N xs) cut_L_law K k) 228 L st S) ∧
  (∀ (K : Kt LT) (k : Nat) (L : xL) (st : List Value) (S : LT), nx (cod_L_law N xs) cut_L_law K (k + 1) 231 L st S = (O_iload 4 2) (nx (cod_L_law N xs) cut_L_law K k) 231 L st S) ∧
  (∀ (K : Kt LT) (k : Nat) (L : xL) (st : List Value) (S : LT), nx (cod_L_law N xs) cut_L_law K (k + 1) 233 L st S = (O_int 1 1) (nx (cod_L_law N xs) cut_L_law K k) 233 L st S) ∧
  (∀ (K : Kt LT) (k : Nat) (L : xL) (st : List Value) (S : LT), nx (cod_L_law N xs) cut_L_law K (k + 1) 234 L st S = (O_iadd) (nx (cod_L_law N xs) cut_L_law K k) 234 L st S) ∧
  (∀ (K : Kt LT) (k : Nat) (L : xL) (st : List Value) (S : LT), nx (cod_L_law N xs) cut_L_law K (k + 1) 235 L st S = (O_icmp_ne 242) (nx (cod_L_law N xs) cut_L_law K k) 235 L st S) ∧
  (∀ (K : Kt LT) (k : Nat) (L : xL) (st : List Value) (S : LT), nx (cod_L_law N xs) cut_L_law K (k + 1) 238 L st S = (O_int 1 1) (nx (cod_L_law N xs) cut_L_law K k) 238 L st S) ∧
  (∀ (K : Kt LT) (k : Nat) (L : xL) (st : List Value) (S : LT), nx (cod_L_law N xs) cut_L_law K (k + 1) 239 L st S = (O_goto 243) (nx (cod_L_law N xs) cut_L_law K k) 239 L st S) ∧
  (∀ (K : Kt LT) (k : Nat) (L : xL) (st : List Value) (S : LT), nx (cod_L_law N xs) cut_L_law K (k + 1) 242 L st S = K 242 L st S) ∧
  (∀ (K : Kt LT) (k : Nat) (L : xL) (st : List Value) (S : LT), nx1 (cod_L_law N xs) cut_L_law K k 242 L st S = (O_int 0 1) (nx (cod_L_law N xs) cut_L_law K k) 242 L st S) ∧
  (∀ (K : Kt LT) (k : Nat) (L : xL) (st : List Value) (S : LT), nx (cod_L_law N xs) cut_L_law K (k + 1) 243 L st S = (O_istore 3 1) (nx (cod_L_law N xs) cut_L_law K k) 243 L st S) ∧
  (∀ (K : Kt LT) (k : Nat) (L : xL) (st : List Value) (S : LT), nx (cod_L_law N xs) cut_L_law K (k + 1) 244 L st S = (O_iinc 4 1) (nx (cod_L_law N xs) cut_L_law K k) 244 L st S) ∧
  (∀ (K : Kt LT) (k : Nat) (L : xL) (st : List Value) (S : LT), nx (cod_L_law N xs) cut_L_law K (k + 1) 247 L st S = (O_goto 190) (nx (cod_L_law N xs) cut_L_law K k) 247 L st S) ∧
  (∀ (K : Kt LT) (k : Nat) (L : xL) (st : List Value) (S : LT), nx (cod_L_law N xs) cut_L_law K (k + 1) 250 L st S = (O_int 0 1) (nx (cod_L_law N xs) cut_L_law K k) 250 L st S) ∧
  (∀ (K : Kt LT) (k : Nat) (L : xL) (st : List Value) (S : LT), nx (cod_L_law N xs) cut_L_law K (k + 1) 251 L st S = (O_istore 4 2) (nx (cod_L_law N xs) cut_L_law K k) 251 L st S) ∧
  (∀ (K : Kt LT) (k : Nat) (L : xL) (st : List Value) (S : LT), nx (cod_L_law N xs) cut_L_law K (k + 1) 253 L st S = K 253 L st S) ∧
  (∀ (K : Kt LT) (k : Nat) (L : xL) (st : List Value) (S : LT), nx1 (cod_L_law N xs) cut_L_law K k 253 L st S = (O_iload 4 2) (nx (cod_L_law N xs) cut_L_law K k) 253 L st S) ∧
  (∀ (K : Kt LT) (k : Nat) (L : xL) (st : List Value) (S : LT), nx (cod_L_law N xs) cut_L_law K (k + 1) 255 L st S = (O_int 3 1) (nx (cod_L_law N xs) cut_L_law K k) 255 L st S) ∧
  (∀ (K : Kt LT) (k : Nat) (L : xL) (st : List Value) (S : LT), nx (cod_L_law N xs) cut_L_law K (k + 1) 256 L st S = (O_icmp_ge 313) (nx (cod_L_law N xs) cut_L_law K k) 256 L st S) ∧
  (∀ (K : Kt LT) (k : Nat) (L : xL) (st : List Value) (S : LT), nx (cod_L_law N xs) cut_L_law K (k + 1) 259 L st S = (O_aload 0 1) (nx (cod_L_law N xs) cut_L_law K k) 259 L st S) ∧
  (∀ (K : Kt LT) (k : Nat) (L : xL) (st : List Value) (S : LT), nx (cod_L_law N xs) cut_L_law K (k + 1) 260 L st S = (O_int 8 2) (nx (cod_L_law N xs) cut_L_law K k) 260 L st S) ∧
  (∀ (K : Kt LT) (k : Nat) (L : xL) (st : List Value) (S : LT), nx (cod_L_law N xs) cut_L_law K (k + 1) 262 L st S = (O_iload 4 2) (nx (cod_L_law N xs) cut_L_law K k) 262 L st S) ∧
  (∀ (K : Kt LT) (k : Nat) (L : xL) (st : List Value) (S : LT), nx (cod_L_law N xs) cut_L_law K (k + 1) 264 L st S = (O_isub) (nx (cod_L_law N xs) cut_L_law K k) 264 L st S) ∧
  (∀ (K : Kt LT) (k : Nat) (L : xL) (st : List Value) (S : LT), nx (cod_L_law N xs) cut_L_law K (k + 1) 265 L st S = (O_callT N xs 2 yL_cell cL_cell 2 (some .int) 0 lW) (nx (cod_L_law N xs) cut_L_law K k) 265 L st S) ∧
  (∀ (K : Kt LT) (k : Nat) (L : xL) (st : List Value) (S : LT), nx (cod_L_law N xs) cut_L_law K (k + 1) 268 L st S = (O_int 200 3) (nx (cod_L_law N xs) cut_L_law K k) 268 L st S) ∧
  (∀ (K : Kt LT) (k : Nat) (L : xL) (st : List Value) (S : LT), nx (cod_L_law N xs) cut_L_law K (k + 1) 271 L st S = (O_callS 2 sp_L_up) (nx (cod_L_law N xs) cut_L_law K k) 271 L st S) ∧
  (∀ (K : Kt LT) (k : Nat) (L : xL) (st : List Value) (S : LT), nx (cod_L_law N xs) cut_L_law K (k + 1) 274 L st S = (O_istore 5 2) (nx (cod_L_law N xs) cut_L_law K k) 274 L st S) ∧
  (∀ (K : Kt LT) (k : Nat) (L : xL) (st : List Value) (S : LT), nx (cod_L_law N xs) cut_L_law K (k + 1) 276 L st S = (O_iload 3 1) (nx (cod_L_law N xs) cut_L_law K k) 276 L st S) ∧
  (∀ (K : Kt LT) (k : Nat) (L : xL) (st : List Value) (S : LT), nx (cod_L_law N xs) cut_L_law K (k + 1) 277 L st S = (O_if_eq 305) (nx (cod_L_law N xs) cut_L_law K k) 277 L st S) ∧
  (∀ (K : Kt LT) (k : Nat) (L : xL) (st : List Value) (S : LT), nx (cod_L_law N xs) cut_L_law K (k + 1) 280 L st S = (O_aload 2 1) (nx (cod_L_law N xs) cut_L_law K k) 280 L st S) ∧
  (∀ (K : Kt LT) (k : Nat) (L : xL) (st : List Value) (S : LT), nx (cod_L_law N xs) cut_L_law K (k + 1) 281 L st S = (O_iload 4 2) (nx (cod_L_law N xs) cut_L_law K k) 281 L st S) ∧
  (∀ (K : Kt LT) (k : Nat) (L : xL) (st : List Value) (S : LT), nx (cod_L_law N xs) cut_L_law K (k + 1) 283 L st S = (O_iload 5 2) (nx (cod_L_law N xs) cut_L_law K k) 283 L st S) ∧
  (∀ (K : Kt LT) (k : Nat) (L : xL) (st : List Value) (S : LT), nx (cod_L_law N xs) cut_L_law K (k + 1) 285 L st S = (O_int 202 3) (nx (cod_L_law N xs) cut_L_law K k) 285 L st S) ∧
  (∀ (K : Kt LT) (k : Nat) (L : xL) (st : List Value) (S : LT), nx (cod_L_law N xs) cut_L_law K (k + 1) 288 L st S = (O_iload 4 2) (nx (cod_L_law N xs) cut_L_law K k) 288 L st S) ∧
  (∀ (K : Kt LT) (k : Nat) (L : xL) (st : List Value) (S : LT), nx (cod_L_law N xs) cut_L_law K (k + 1) 290 L st S = (O_isub) (nx (cod_L_law N xs) cut_L_law K k) 290 L st S) ∧
  (∀ (K : Kt LT) (k : Nat) (L : xL) (st : List Value) (S : LT), nx (cod_L_law N xs) cut_L_law K (k + 1) 291 L st S = (O_callV 3 148 (fun S : LT => S.2) (fun S G => (S.1, G)) (spG yX6_programme cX6_programme 4 (some .int) 4 fpW)) (nx (cod_L_law N xs) cut_L_law K k) 291 L st S) ∧
  (∀ (K : Kt LT) (k : Nat) (L : xL) (st : List Value) (S : LT), nx (cod_L_law N xs) cut_L_law K (k + 1) 294 L st S = (O_iload 4 2) (nx (cod_L_law N xs) cut_L_law K k) 294 L st S) ∧
  (∀ (K : Kt LT) (k : Nat) (L : xL) (st : List Value) (S : LT), nx (cod_L_law N xs) cut_L_law K (k + 1) 296 L st S = (O_int 1 1) (nx (cod_L_law N xs) cut_L_law K k) 296 L st S) ∧
  (∀ (K : Kt LT) (k : Nat) (L : xL) (st : List Value) (S : LT), nx (cod_L_law N xs) cut_L_law K (k + 1) 297 L st S = (O_iadd) (nx (cod_L_law N xs) cut_L_law K k) 297 L st S) ∧
  (∀ (K : Kt LT) (k : Nat) (L : xL) (st : List Value) (S : LT), nx (cod_L_law N xs) cut_L_law K (k + 1) 298 L st S = (O_icmp_ne 305) (nx (cod_L_law N xs) cut_L_law K k) 298 L st S) ∧
  (∀ (K : Kt LT) (k : Nat) (L : xL) (st : List Value) (S : LT), nx (cod_L_law N xs) cut_L_law K (k + 1) 301 L st S = (O_int 1 1) (nx (cod_L_law N xs) cut_L_law K k) 301 L st S) ∧
  (∀ (K : Kt LT) (k : Nat) (L : xL) (st : List Value) (S : LT), nx (cod_L_law N xs) cut_L_law K (k + 1) 302 L st S = (O_goto 306) (nx (cod_L_law N xs) cut_L_law K k) 302 L st S) ∧
  (∀ (K : Kt LT) (k : Nat) (L : xL) (st : List Value) (S : LT), nx (cod_L_law N xs) cut_L_law K (k + 1) 305 L st S = K 305 L st S) ∧
  (∀ (K : Kt LT) (k : Nat) (L : xL) (st : List Value) (S : LT), nx1 (cod_L_law N xs) cut_L_law K k 305 L st S = (O_int 0 1) (nx (cod_L_law N xs) cut_L_law K k) 305 L st S) ∧
  (∀ (K : Kt LT) (k : Nat) (L : xL) (st : List Value) (S : LT), nx (cod_L_law N xs) cut_L_law K (k + 1) 306 L st S = (O_istore 3 1) (nx (cod_L_law N xs) cut_L_law K k) 306 L st S) ∧
  (∀ (K : Kt LT) (k : Nat) (L : xL) (st : List Value) (S : LT), nx (cod_L_law N xs) cut_L_law K (k + 1) 307 L st S = (O_iinc 4 1) (nx (cod_L_law N xs) cut_L_law K k) 307 L st S) ∧
  (∀ (K : Kt LT) (k : Nat) (L : xL) (st : List Value) (S : LT), nx (cod_L_law N xs) cut_L_law K (k + 1) 310 L st S = (O_goto 253) (nx (cod_L_law N xs) cut_L_law K k) 310 L st S) ∧
  (∀ (K : Kt LT) (k : Nat) (L : xL) (st : List Value) (S : LT), nx (cod_L_law N xs) cut_L_law K (k + 1) 313 L st S = K 313 L st S) ∧
  (∀ (K : Kt LT) (k : Nat) (L : xL) (st : List Value) (S : LT), nx1 (cod_L_law N xs) cut_L_law K k 313 L st S = (O_iload 3 1) (nx (cod_L_law N xs) cut_L_law K k) 313 L st S) ∧
  (∀ (K : Kt LT) (k : Nat) (L : xL) (st : List Value) (S : LT), nx (cod_L_law N xs) cut_L_law K (k + 1) 314 L st S = (O_if_eq 361) (nx (cod_L_law N xs) cut_L_law K k) 314 L st S) ∧
  (∀ (K : Kt LT) (k : Nat) (L : xL) (st : List Value) (S : LT), nx (cod_L_law N xs) cut_L_law K (k + 1) 317 L st S = (O_aload 1 1) (nx (cod_L_law N xs) cut_L_law K k) 317 L st S) ∧
  (∀ (K : Kt LT) (k : Nat) (L : xL) (st : List Value) (S : LT), nx (cod_L_law N xs) cut_L_law K (k + 1) 318 L st S = (O_int 18 2) (nx (cod_L_law N xs) cut_L_law K k) 318 L st S) ∧
  (∀ (K : Kt LT) (k : Nat) (L : xL) (st : List Value) (S : LT), nx (cod_L_law N xs) cut_L_law K (k + 1) 320 L st S = (O_aload 0 1) (nx (cod_L_law N xs) cut_L_law K k) 320 L st S) ∧
  (∀ (K : Kt LT) (k : Nat) (L : xL) (st : List Value) (S : LT), nx (cod_L_law N xs) cut_L_law K (k + 1) 321 L st S = (O_int 9 2) (nx (cod_L_law N xs) cut_L_law K k) 321 L st S) ∧
  (∀ (K : Kt LT) (k : Nat) (L : xL) (st : List Value) (S : LT), nx (cod_L_law N xs) cut_L_law K (k + 1) 323 L st S = (O_callT N xs 2 yL_cell cL_cell 2 (some .int) 0 lW) (nx (cod_L_law N xs) cut_L_law K k) 323 L st S) ∧
  (∀ (K : Kt LT) (k : Nat) (L : xL) (st : List Value) (S : LT), nx (cod_L_law N xs) cut_L_law K (k + 1) 326 L st S = (O_int 60 2) (nx (cod_L_law N xs) cut_L_law K k) 326 L st S) ∧
  (∀ (K : Kt LT) (k : Nat) (L : xL) (st : List Value) (S : LT), nx (cod_L_law N xs) cut_L_law K (k + 1) 328 L st S = (O_callS 2 sp_L_up) (nx (cod_L_law N xs) cut_L_law K k) 328 L st S) ∧
  (∀ (K : Kt LT) (k : Nat) (L : xL) (st : List Value) (S : LT), nx (cod_L_law N xs) cut_L_law K (k + 1) 331 L st S = (O_callZ 2 0 yX6_set cX6_set 4 (some .int) 4 fpW (fun S : LT => S.1) (fun S F => (F, S.2))) (nx (cod_L_law N xs) cut_L_law K k) 331 L st S) ∧
  (∀ (K : Kt LT) (k : Nat) (L : xL) (st : List Value) (S : LT), nx (cod_L_law N xs) cut_L_law K (k + 1) 334 L st S = (O_if_ne 361) (nx (cod_L_law N xs) cut_L_law K k) 334 L st S) ∧
  (∀ (K : Kt LT) (k : Nat) (L : xL) (st : List Value) (S : LT), nx (cod_L_law N xs) cut_L_law K (k + 1) 337 L st S = (O_aload 2 1) (nx (cod_L_law N xs) cut_L_law K k) 337 L st S) ∧
  (∀ (K : Kt LT) (k : Nat) (L : xL) (st : List Value) (S : LT), nx (cod_L_law N xs) cut_L_law K (k + 1) 338 L st S = (O_int 18 2) (nx (cod_L_law N xs) cut_L_law K k) 338 L st S) ∧
  (∀ (K : Kt LT) (k : Nat) (L : xL) (st : List Value) (S : LT), nx (cod_L_law N xs) cut_L_law K (k + 1) 340 L st S = (O_aload 0 1) (nx (cod_L_law N xs) cut_L_law K k) 340 L st S) ∧
  (∀ (K : Kt LT) (k : Nat) (L : xL) (st : List Value) (S : LT), nx (cod_L_law N xs) cut_L_law K (k + 1) 341 L st S = (O_int 9 2) (nx (cod_L_law N xs) cut_L_law K k) 341 L st S) ∧
  (∀ (K : Kt LT) (k : Nat) (L : xL) (st : List Value) (S : LT), nx (cod_L_law N xs) cut_L_law K (k + 1) 343 L st S = (O_callT N xs 2 yL_cell cL_cell 2 (some .int) 0 lW) (nx (cod_L_law N xs) cut_L_law K k) 343 L st S) ∧
  (∀ (K : Kt LT) (k : Nat) (L : xL) (st : List Value) (S : LT), nx (cod_L_law N xs) cut_L_law K (k + 1) 346 L st S = (O_int 60 2) (nx (cod_L_law N xs) cut_L_law K k) 346 L st S) ∧
  (∀ (K : Kt LT) (k : Nat) (L : xL) (st : List Value) (S : LT), nx (cod_L_law N xs) cut_L_law K (k + 1) 348 L st S = (O_callS 2 sp_L_up) (nx (cod_L_law N xs) cut_L_law K k) 348 L st S) ∧
  (∀ (K : Kt LT) (k : Nat) (L : xL) (st : List Value) (S : LT), nx (cod_L_law N xs) cut_L_law K (k + 1) 351 L st S = (O_callZ 2 148 yX6_set cX6_set 4 (some .int) 4 fpW (fun S : LT => S.2) (fun S G => (S.1, G))) (nx (cod_L_law N xs) cut_L_law K k) 351 L st S) ∧
  (∀ (K : Kt LT) (k : Nat) (L : xL) (st : List Value) (S : LT), nx (cod_L_law N xs) cut_L_law K (k + 1) 354 L st S = (O_if_ne 361) (nx (cod_L_law N xs) cut_L_law K k) 354 L st S) ∧
  (∀ (K : Kt LT) (k : Nat) (L : xL) (st : List Value) (S : LT), nx (cod_L_law N xs) cut_L_law K (k + 1) 357 L st S = (O_int 1 1) (nx (cod_L_law N xs) cut_L_law K k) 357 L st S) ∧
  (∀ (K : Kt LT) (k : Nat) (L : xL) (st : List Value) (S : LT), nx (cod_L_law N xs) cut_L_law K (k + 1) 358 L st S = (O_goto 362) (nx (cod_L_law N xs) cut_L_law K k) 358 L st S) ∧
  (∀ (K : Kt LT) (k : Nat) (L : xL) (st : List Value) (S : LT), nx (cod_L_law N xs) cut_L_law K (k + 1) 361 L st S = K 361 L st S) ∧
  (∀ (K : Kt LT) (k : Nat) (L : xL) (st : List Value) (S : LT), nx1 (cod_L_law N xs) cut_L_law K k 361 L st S = (O_int 0 1) (nx (cod_L_law N xs) cut_L_law K k) 361 L st S) ∧
  (∀ (K : Kt LT) (k : Nat) (L : xL) (st : List Value) (S : LT), nx (cod_L_law N xs) cut_L_law K (k + 1) 362 L st S = (O_istore 3 1) (nx (cod_L_law N xs) cut_L_law K k) 362 L st S) ∧
  (∀ (K : Kt LT) (k : Nat) (L : xL) (st : List Value) (S : LT), nx (cod_L_law N xs) cut_L_law K (k + 1) 363 L st S = (O_int 10 2) (nx (cod_L_law N xs) cut_L_law K k) 363 L st S) ∧
  (∀ (K : Kt LT) (k : Nat) (L : xL) (st : List Value) (S : LT), nx (cod_L_law N xs) cut_L_law K (k + 1) 365 L st S = (O_istore 4 2) (nx (cod_L_law N xs) cut_L_law K k) 365 L st S) ∧
  (∀ (K : Kt LT) (k : Nat) (L : xL) (st : List Value) (S : LT), nx (cod_L_law N xs) cut_L_law K (k + 1) 367 L st S = K 367 L st S) ∧
  (∀ (K : Kt LT) (k : Nat) (L : xL) (st : List Value) (S : LT), nx1 (cod_L_law N xs) cut_L_law K k 367 L st S = (O_iload 4 2) (nx (cod_L_law N xs) cut_L_law K k) 367 L st S) ∧
  (∀ (K : Kt LT) (k : Nat) (L : xL) (st : List Value) (S : LT), nx (cod_L_law N xs) cut_L_law K (k + 1) 369 L st S = (O_int 44 2) (nx (cod_L_law N xs) cut_L_law K k) 369 L st S) ∧
  (∀ (K : Kt LT) (k : Nat) (L : xL) (st : List Value) (S : LT), nx (cod_L_law N xs) cut_L_law K (k + 1) 371 L st S = (O_icmp_ge 419) (nx (cod_L_law N xs) cut_L_law K k) 371 L st S) ∧
  (∀ (K : Kt LT) (k : Nat) (L : xL) (st : List Value) (S : LT), nx (cod_L_law N xs) cut_L_law K (k + 1) 374 L st S = (O_iload 3 1) (nx (cod_L_law N xs) cut_L_law K k) 374 L st S) ∧
  (∀ (K : Kt LT) (k : Nat) (L : xL) (st : List Value) (S : LT), nx (cod_L_law N xs) cut_L_law K (k + 1) 375 L st S = (O_if_eq 419) (nx (cod_L_law N xs) cut_L_law K k) 375 L st S) ∧
  (∀ (K : Kt LT) (k : Nat) (L : xL) (st : List Value) (S : LT), nx (cod_L_law N xs) cut_L_law K (k + 1) 378 L st S = (O_aload 1 1) (nx (cod_L_law N xs) cut_L_law K k) 378 L st S) ∧
  (∀ (K : Kt LT) (k : Nat) (L : xL) (st : List Value) (S : LT), nx (cod_L_law N xs) cut_L_law K (k + 1) 379 L st S = (O_aload 2 1) (nx (cod_L_law N xs) cut_L_law K k) 379 L st S) ∧
  (∀ (K : Kt LT) (k : Nat) (L : xL) (st : List Value) (S : LT), nx (cod_L_law N xs) cut_L_law K (k + 1) 380 L st S = (O_aload 0 1) (nx (cod_L_law N xs) cut_L_law K k) 380 L st S) ∧
  (∀ (K : Kt LT) (k : Nat) (L : xL) (st : List Value) (S : LT), nx (cod_L_law N xs) cut_L_law K (k + 1) 381 L st S = (O_iload 4 2) (nx (cod_L_law N xs) cut_L_law K k) 381 L st S) ∧
  (∀ (K : Kt LT) (k : Nat) (L : xL) (st : List Value) (S : LT), nx (cod_L_law N xs) cut_L_law K (k + 1) 383 L st S = (O_callT N xs 2 yL_cell cL_cell 2 (some .int) 0 lW) (nx (cod_L_law N xs) cut_L_law K k) 383 L st S) ∧
  (∀ (K : Kt LT) (k : Nat) (L : xL) (st : List Value) (S : LT), nx (cod_L_law N xs) cut_L_law K (k + 1) 386 L st S = (O_callT N xs 3 yL_isStep cL_isStep 6 (some .boolean) 6 lW) (nx (cod_L_law N xs) cut_L_law K k) 386 L st S) ∧
  (∀ (K : Kt LT) (k : Nat) (L : xL) (st : List Value) (S : LT), nx (cod_L_law N xs) cut_L_law K (k + 1) 389 L st S = (O_if_eq 411) (nx (cod_L_law N xs) cut_L_law K k) 389 L st S) ∧
  (∀ (K : Kt LT) (k : Nat) (L : xL) (st : List Value) (S : LT), nx (cod_L_law N xs) cut_L_law K (k + 1) 392 L st S = (O_aload 1 1) (nx (cod_L_law N xs) cut_L_law K k) 392 L st S) ∧
  (∀ (K : Kt LT) (k : Nat) (L : xL) (st : List Value) (S : LT), nx (cod_L_law N xs) cut_L_law K (k + 1) 393 L st S = (O_aload 2 1) (nx (cod_L_law N xs) cut_L_law K k) 393 L st S) ∧
  (∀ (K : Kt LT) (k : Nat) (L : xL) (st : List Value) (S : LT), nx (cod_L_law N xs) cut_L_law K (k + 1) 394 L st S = (O_callT N xs 2 yL_areAlike cL_areAlike 5 (some .boolean) 6 lW) (nx (cod_L_law N xs) cut_L_law K k) 394 L st S) ∧
  (∀ (K : Kt LT) (k : Nat) (L : xL) (st : List Value) (S : LT), nx (cod_L_law N xs) cut_L_law K (k + 1) 397 L st S = (O_if_eq 411) (nx (cod_L_law N xs) cut_L_law K k) 397 L st S) ∧
  (∀ (K : Kt LT) (k : Nat) (L : xL) (st : List Value) (S : LT), nx (cod_L_law N xs) cut_L_law K (k + 1) 400 L st S = (O_aload 1 1) (nx (cod_L_law N xs) cut_L_law K k) 400 L st S) ∧
  (∀ (K : Kt LT) (k : Nat) (L : xL) (st : List Value) (S : LT), nx (cod_L_law N xs) cut_L_law K (k + 1) 401 L st S = (O_callT N xs 1 yL_isSound cL_isSound 7 (some .boolean) 4 lW) (nx (cod_L_law N xs) cut_L_law K k) 401 L st S) ∧
  (∀ (K : Kt LT) (k : Nat) (L : xL) (st : List Value) (S : LT), nx (cod_L_law N xs) cut_L_law K (k + 1) 404 L st S = (O_if_eq 411) (nx (cod_L_law N xs) cut_L_law K k) 404 L st S) ∧
  (∀ (K : Kt LT) (k : Nat) (L : xL) (st : List Value) (S : LT), nx (cod_L_law N xs) cut_L_law K (k + 1) 407 L st S = (O_int 1 1) (nx (cod_L_law N xs) cut_L_law K k) 407 L st S) ∧
  (∀ (K : Kt LT) (k : Nat) (L : xL) (st : List Value) (S : LT), nx (cod_L_law N xs) cut_L_law K (k + 1) 408 L st S = (O_goto 412) (nx (cod_L_law N xs) cut_L_law K k) 408 L st S) ∧
  (∀ (K : Kt LT) (k : Nat) (L : xL) (st : List Value) (S : LT), nx (cod_L_law N xs) cut_L_law K (k + 1) 411 L st S = K 411 L st S) ∧
  (∀ (K : Kt LT) (k : Nat) (L : xL) (st : List Value) (S : LT), nx1 (cod_L_law N xs) cut_L_law K k 411 L st S = (O_int 0 1) (nx (cod_L_law N xs) cut_L_law K k) 411 L st S) ∧
  (∀ (K : Kt LT) (k : Nat) (L : xL) (st : List Value) (S : LT), nx (cod_L_law N xs) cut_L_law K (k + 1) 412 L st S = (O_istore 3 1) (nx (cod_L_law N xs) cut_L_law K k) 412 L st S) ∧
  (∀ (K : Kt LT) (k : Nat) (L : xL) (st : List Value) (S : LT), nx (cod_L_law N xs) cut_L_law K (k + 1) 413 L st S = (O_iinc 4 1) (nx (cod_L_law N xs) cut_L_law K k) 413 L st S) ∧
  (∀ (K : Kt LT) (k : Nat) (L : xL) (st : List Value) (S : LT), nx (cod_L_law N xs) cut_L_law K (k + 1) 416 L st S = (O_goto 367) (nx (cod_L_law N xs) cut_L_law K k) 416 L st S) ∧
  (∀ (K : Kt LT) (k : Nat) (L : xL) (st : List Value) (S : LT), nx (cod_L_law N xs) cut_L_law K (k + 1) 419 L st S = K 419 L st S) ∧
  (∀ (K : Kt LT) (k : Nat) (L : xL) (st : List Value) (S : LT), nx1 (cod_L_law N xs) cut_L_law K k 419 L st S = (O_iload 3 1) (nx (cod_L_law N xs) cut_L_law K k) 419 L st S) ∧
  (∀ (K : Kt LT) (k : Nat) (L : xL) (st : List Value) (S : LT), nx (cod_L_law N xs) cut_L_law K (k + 1) 420 L st S = (O_if_eq 434) (nx (cod_L_law N xs) cut_L_law K k) 420 L st S) ∧
  (∀ (K : Kt LT) (k : Nat) (L : xL) (st : List Value) (S : LT), nx (cod_L_law N xs) cut_L_law K (k + 1) 423 L st S = (O_aload 1 1) (nx (cod_L_law N xs) cut_L_law K k) 423 L st S) ∧
  (∀ (K : Kt LT) (k : Nat) (L : xL) (st : List Value) (S : LT), nx (cod_L_law N xs) cut_L_law K (k + 1) 424 L st S = (O_callT N xs 1 yL_isMinute cL_isMinute 7 (some .boolean) 6 lW) (nx (cod_L_law N xs) cut_L_law K k) 424 L st S) ∧
  (∀ (K : Kt LT) (k : Nat) (L : xL) (st : List Value) (S : LT), nx (cod_L_law N xs) cut_L_law K (k + 1) 427 L st S = (O_if_eq 434) (nx (cod_L_law N xs) cut_L_law K k) 427 L st S) ∧
  (∀ (K : Kt LT) (k : Nat) (L : xL) (st : List Value) (S : LT), nx (cod_L_law N xs) cut_L_law K (k + 1) 430 L st S = (O_int 1 1) (nx (cod_L_law N xs) cut_L_law K k) 430 L st S) ∧
  (∀ (K : Kt LT) (k : Nat) (L : xL) (st : List Value) (S : LT), nx (cod_L_law N xs) cut_L_law K (k + 1) 431 L st S = (O_goto 435) (nx (cod_L_law N xs) cut_L_law K k) 431 L st S) ∧
  (∀ (K : Kt LT) (k : Nat) (L : xL) (st : List Value) (S : LT), nx (cod_L_law N xs) cut_L_law K (k + 1) 434 L st S = K 434 L st S) ∧
  (∀ (K : Kt LT) (k : Nat) (L : xL) (st : List Value) (S : LT), nx1 (cod_L_law N xs) cut_L_law K k 434 L st S = (O_int 0 1) (nx (cod_L_law N xs) cut_L_law K k) 434 L st S) ∧
  (∀ (K : Kt LT) (k : Nat) (L : xL) (st : List Value) (S : LT), nx (cod_L_law N xs) cut_L_law K (k + 1) 100000 L st S = K 100000 L st S) ∧
  (∀ (K : Kt LT) (k : Nat) (L : xL) (st : List Value) (S : LT), nx (cod_L_law N xs) cut_L_law K (k + 1) 435 L st S = K 435 L st S) := by
  repeat' apply And.intro
  all_goals (intros; rfl)
theorem n_add : (∀ k : Nat, (3 : Int32) + nI k = nI (3 + k)) ∧ (∀ k : Nat, (6 : Int32) + nI k = nI (6 + k)) ∧ (∀ k : Nat, (200 : Int32) + nI k = nI (200 + k)) := ⟨fun k => nI_add 3 k, fun k => nI_add 6 k, fun k => nI_add 200 k⟩
theorem n_sub : (∀ k : Nat, k < 3 → (5 : Int32) - nI k = nI (5 - k)) ∧ (∀ k : Nat, k < 3 → (8 : Int32) - nI k = nI (8 - k)) ∧ (∀ k : Nat, k < 3 → (202 : Int32) - nI k = nI (202 - k)) := ⟨fun k h => pk_sub (a := 5) (by omega), fun k h => pk_sub (a := 8) (by omega), fun k h => pk_sub (a := 202) (by omega)⟩
section
variable {E : En} {N : Nat} {xs : Nat → Int32} {F G : FT}
theorem lt_3 {k : Nat} (hk : k < 3) : nI k < (3 : Int32) := by
  rw [show (3 : Int32) = nI 3 from rfl, lt_n (by omega) k (by omega)]
  exact hk
set_option maxRecDepth 10000 in
theorem lw_first (C : CodOk E lW (cod_L_law N xs)) (hN : N ≤ 260) {k : Nat} (hk : k < 3) (l5 l6 l7 : Option Value) (hF : F.good) (hG : G.good) (eF : F.now = TK (cv N xs) k (ZK (fun i => dm (cv N xs) (3 + i)) k)) (eG : G.now = TK (cv N xs) k (ZK (fun i => dm (cv N xs) (5 - i)) k))
    (kk : ∀ (F' G' : FT) (l5 l6 l7 : Option Value), F'.good → G'.good → F'.now = TK (cv N xs) (k + 1) (ZK (fun i => dm (cv N xs) (3 + i)) (k + 1)) → G'.now = TK (cv N xs) (k + 1) (ZK (fun i => dm (cv N xs) (5 - i)) (k + 1)) → Gd E lW 21 [some (.ref 1003), some (.ref 0), some (.ref 148), some (.int 1), some (.int (nI (k + 1))), l5, l6, l7] [] (F', G')) :
    Gd E lW 21 [some (.ref 1003), some (.ref 0), some (.ref 148), some (.int 1), some (.int (nI k)), l5, l6, l7] [] (F, G) := by
  have hx := lt_3 hk
  have i1 := (ZK_ok (fun i => dm (cv N xs) (3 + i)) k (by omega)).1
  have i2 := (ZK_ok (fun i => dm (cv N xs) (5 - i)) k (by omega)).1
  obtain ⟨F1, p1, g1, f1⟩ := su_pump (a := cv N xs) (k := k) (by omega) i1 hF eF
  obtain ⟨G1, p2, g2, f2⟩ := su_pump (a := cv N xs) (k := k) (by omega) i2 hG eG
  obtain ⟨F2, z1, g3, f3⟩ := su_zone (a := cv N xs) (k := k + 1) (by omega) (f := fun i => dm (cv N xs) (3 + i)) (j := k) (by omega) ⟨_, rfl⟩ g1 f1
  obtain ⟨G2, z2, g4, f4⟩ := su_zone (a := cv N xs) (k := k + 1) (by omega) (f := fun i => dm (cv N xs) (5 - i)) (j := k) (by omega) ⟨_, rfl⟩ g2 f2
  have c0 := con_L_cell (xs := xs) hN (k := k) (by omega) (F, G)
  have c1 := con_L_cell (xs := xs) hN (k := 3 + k) (by omega) (F1, G1)
  have c2 := con_L_cell (xs := xs) hN (k := 5 - k) (by omega) (F2, G1)
  have e5 := n_sub.1 k hk
  have h119 : Gd E lW 119 [some (.ref 1003), some (.ref 0), some (.ref 148), some (.int 1), some (.int (nI k)), some (.int (cv N xs k)), some (.int (kd (cv N xs) k)), some (.int (sf (cv N xs) k))] [] (F1, G1) := by
    have hk2 := kk F2 G2 (some (.int (cv N xs k))) (some (.int (kd (cv N xs) k))) (some (.int (sf (cv N xs) k))) g3 g4 f3 f4
    (refine nx1_ok C cut_L_law 1000 ?_; simp only [w_L_law, ops_eq, xst_eq, call_eq, oK_eq, Option.toList_some, Option.toList_none, List.cons_append, List.nil_append, List.length_cons, List.length_nil, true_and, and_true, Nat.reduceAdd, O_g_eq, O_s_eq, O_t_eq, O_z2, spG_eq, se_L_up, l_eq, z_eq, false_implies, true_implies, implies_true, not_true_eq_false, not_false_eq_true, Nat.reduceLeDiff, Nat.zero_le, n_add, e5, nI_1])
    exact ⟨cv N xs (3 + k), (F1, G1), c1, nI k, F2, z1, fun z => absurd rfl z, fun _ => ⟨cv N xs (5 - k), (F2, G1), c2, nI k, G2, z2, fun z => absurd rfl z, fun _ => hk2⟩⟩
  (refine nx1_ok C cut_L_law 1000 ?_; simp only [w_L_law, ops_eq, xst_eq, call_eq, oK_eq, Option.toList_some, Option.toList_none, List.cons_append, List.nil_append, List.length_cons, List.length_nil, true_and, and_true, Nat.reduceAdd, O_g_eq, O_s_eq, O_t_eq, O_z2, spG_eq, se_L_up, l_eq, z_eq, false_implies, true_implies, implies_true, not_true_eq_false, not_false_eq_true, Nat.reduceLeDiff, Nat.zero_le, hx])
  exact ⟨cv N xs k, (F, G), c0, nI k, F1, p1, fun z => absurd rfl z, fun _ => ⟨nI k, G1, p2, fun z => absurd rfl z, fun _ => h119⟩⟩
set_option maxRecDepth 10000 in
theorem lw_progO (C : CodOk E lW (cod_L_law N xs)) (hN : N ≤ 260) {k : Nat} (hk : k < 3) (l5 l6 l7 : Option Value) (hF : F.good) (eF : F.now = TK (cv N xs) 3 (ZP (fun i => frm (cv N xs) (6 + i)) (fun i => nI (200 + i)) (ZK (fun i => dm (cv N xs) (3 + i)) 3) k))
    (kk : ∀ (F' : FT) (l5 l6 l7 : Option Value), F'.good → F'.now = TK (cv N xs) 3 (ZP (fun i => frm (cv N xs) (6 + i)) (fun i => nI (200 + i)) (ZK (fun i => dm (cv N xs) (3 + i)) 3) (k + 1)) → Gd E lW 190 [some (.ref 1003), some (.ref 0), some (.ref 148), some (.int 1), some (.int (nI (k + 1))), l5, l6, l7] [] (F', G)) :
    Gd E lW 190 [some (.ref 1003), some (.ref 0), some (.ref 148), some (.int 1), some (.int (nI k)), l5, l6, l7] [] (F, G) := by
  have hx := lt_3 hk
  obtain ⟨i1, i2, i3, -⟩ := ZK_ok (fun i => dm (cv N xs) (3 + i)) 3 (by decide)
  obtain ⟨F1, p1, g1, f1⟩ := su_prog (a := cv N xs) (f := fun i => frm (cv N xs) (6 + i)) (g := fun i => nI (200 + i)) i1 i2 i3 hk (frm_n _ _) ⟨200 + k, by omega, by omega, rfl⟩ hF eF
  have c0 := con_L_cell (xs := xs) hN (k := 6 + k) (by omega) (F, G)
  have hk2 := kk F1 (some (.int (frm (cv N xs) (6 + k)))) l6 l7 g1 f1
  (refine nx1_ok C cut_L_law 1000 ?_; simp only [w_L_law, ops_eq, xst_eq, call_eq, oK_eq, Option.toList_some, Option.toList_none, List.cons_append, List.nil_append, List.length_cons, List.length_nil, true_and, and_true, Nat.reduceAdd, O_g_eq, O_s_eq, O_t_eq, O_z2, spG_eq, se_L_up, l_eq, z_eq, false_implies, true_implies, implies_true, not_true_eq_false, not_false_eq_true, Nat.reduceLeDiff, Nat.zero_le, hx, n_add, nI_1])
  exact ⟨cv N xs (6 + k), (F, G), c0, nI (k + 1), F1, p1, fun z => absurd rfl z, fun _ => hk2⟩
set_option maxRecDepth 10000 in
theorem lw_progQ (C : CodOk E lW (cod_L_law N xs)) (hN : N ≤ 260) {k : Nat} (hk : k < 3) (l5 l6 l7 : Option Value) (hG : G.good) (eG : G.now = TK (cv N xs) 3 (ZP (fun i => frm (cv N xs) (8 - i)) (fun i => nI (202 - i)) (ZK (fun i => dm (cv N xs) (5 - i)) 3) k))
    (kk : ∀ (G' : FT) (l5 l6 l7 : Option Value), G'.good → G'.now = TK (cv N xs) 3 (ZP (fun i => frm (cv N xs) (8 - i)) (fun i => nI (202 - i)) (ZK (fun i => dm (cv N xs) (5 - i)) 3) (k + 1)) → Gd E lW 253 [some (.ref 1003), some (.ref 0), some (.ref 148), some (.int 1), some (.int (nI (k + 1))), l5, l6, l7] [] (F, G')) :
    Gd E lW 253 [some (.ref 1003), some (.ref 0), some (.ref 148), some (.int 1), some (.int (nI k)), l5, l6, l7] [] (F, G) := by
  have hx := lt_3 hk
  obtain ⟨i1, i2, i3, -⟩ := ZK_ok (fun i => dm (cv N xs) (5 - i)) 3 (by decide)
  obtain ⟨G1, p1, g1, f1⟩ := su_prog (a := cv N xs) (f := fun i => frm (cv N xs) (8 - i)) (g := fun i => nI (202 - i)) i1 i2 i3 hk (frm_n _ _) ⟨202 - k, by omega, by omega, rfl⟩ hG eG
  have c0 := con_L_cell (xs := xs) hN (k := 8 - k) (by omega) (F, G)
  have hk2 := kk G1 (some (.int (frm (cv N xs) (8 - k)))) l6 l7 g1 f1
  have e8 := n_sub.2.1 k hk
  have e2 := n_sub.2.2 k hk
  (refine nx1_ok C cut_L_law 1000 ?_; simp only [w_L_law, ops_eq, xst_eq, call_eq, oK_eq, Option.toList_some, Option.toList_none, List.cons_append, List.nil_append, List.length_cons, List.length_nil, true_and, and_true, Nat.reduceAdd, O_g_eq, O_s_eq, O_t_eq, O_z2, spG_eq, se_L_up, l_eq, z_eq, false_implies, true_implies, implies_true, not_true_eq_false, not_false_eq_true, Nat.reduceLeDiff, Nat.zero_le, hx, e8, e2, nI_1])
  exact ⟨cv N xs (8 - k), (F, G), c0, nI (k + 1), G1, p1, fun z => absurd rfl z, fun _ => hk2⟩
set_option maxRecDepth 10000 in
theorem lw_steps (C : CodOk E lW (cod_L_law N xs)) (hN : N ≤ 260) (fin : ∀ (L : xL) (S : LT), L.length = 8 → Gd E lW 435 L [.int 1] S) : ∀ (f q : Nat), q + f = 44 → ∀ (F G : FT) (l5 l6 l7 : Option Value), Tw f F G → Gd E lW 367 [some (.ref 1003), some (.ref 0), some (.ref 148), some (.int 1), some (.int (nI q)), l5, l6, l7] [] (F, G) := by
  intro f
  induction f with
  | zero =>
    intro q hq F G l5 l6 l7 h
    have hx : ¬ nI q < (44 : Int32) := by
      rw [show (44 : Int32) = nI 44 from rfl, lt_n (by omega) q (by omega)]
      omega
    obtain ⟨F', hm⟩ := con_L_isMinute (N := N) (xs := xs) h
    have hf := fin [some (.ref 1003), some (.ref 0), some (.ref 148), some (.int 1), some (.int (nI q)), l5, l6, l7] (F', G) rfl
    have h419 : Gd E lW 419 [some (.ref 1003), some (.ref 0), some (.ref 148), some (.int 1), some (.int (nI q)), l5, l6, l7] [] (F, G) := by
      (refine nx1_ok C cut_L_law 1000 ?_; simp only [w_L_law, ops_eq, xst_eq, call_eq, oK_eq, Option.toList_some, Option.toList_none, List.cons_append, List.nil_append, List.length_cons, List.length_nil, true_and, and_true, Nat.reduceAdd, O_g_eq, O_s_eq, O_t_eq, O_z2, spG_eq, se_L_up, l_eq, z_eq, false_implies, true_implies, implies_true, not_true_eq_false, not_false_eq_true, Nat.reduceLeDiff, Nat.zero_le])
      exact ⟨1, (F', G), hm, fun z => absurd z (by decide), fun _ => hf⟩
    (refine nx1_ok C cut_L_law 1000 ?_; simp only [w_L_law, ops_eq, xst_eq, call_eq, oK_eq, Option.toList_some, Option.toList_none, List.cons_append, List.nil_append, List.length_cons, List.length_nil, true_and, and_true, Nat.reduceAdd, O_g_eq, O_s_eq, O_t_eq, O_z2, spG_eq, se_L_up, l_eq, z_eq, false_implies, true_implies, implies_true, not_true_eq_false, not_false_eq_true, Nat.reduceLeDiff, Nat.zero_le, hx])
    exact h419
  | succ f ih =>
    intro q hq F G l5 l6 l7 h
    have hx : nI q < (44 : Int32) := by
      rw [show (44 : Int32) = nI 44 from rfl, lt_n (by omega) q (by omega)]
      omega
    obtain ⟨F1, G1, h1, s1⟩ := con_L_isStep (N := N) (xs := xs) h (cv N xs q)
    obtain ⟨F2, G2, h2, s2⟩ := con_L_areAlike (N := N) (xs := xs) h1
    have s3 := con_L_isSound (N := N) (xs := xs) h2
    have c0 := con_L_cell (xs := xs) hN (k := q) (by omega) (F, G)
    have hn := ih (q + 1) (by omega) F2 G2 l5 l6 l7 h2
    (refine nx1_ok C cut_L_law 1000 ?_; simp only [w_L_law, ops_eq, xst_eq, call_eq, oK_eq, Option.toList_some, Option.toList_none, List.cons_append, List.nil_append, List.length_cons, List.length_nil, true_and, and_true, Nat.reduceAdd, O_g_eq, O_s_eq, O_t_eq, O_z2, spG_eq, se_L_up, l_eq, z_eq, false_implies, true_implies, implies_true, not_true_eq_false, not_false_eq_true, Nat.reduceLeDiff, Nat.zero_le, hx, nI_1])
    exact ⟨cv N xs q, (F, G), c0, 1, (F1, G1), s1, fun z => absurd z (by decide), fun _ => ⟨1, (F2, G2), s2, fun z => absurd z (by decide), fun _ => ⟨1, (F2, G2), s3, fun z => absurd z (by decide), fun _ => hn⟩⟩⟩
set_option maxRecDepth 10000 in
theorem lw_go (C : CodOk E lW (cod_L_law N xs)) (hN : N ≤ 260) (fin : ∀ (L : xL) (S : LT), L.length = 8 → Gd E lW 435 L [.int 1] S) : Gd E lW 16 [some (.ref 1003), some (.ref 0), some (.ref 148), none, none, none, none, none] [] (FP0, FP0) := by
  have g0 : FP0.good := ⟨FP0_hist, ST.inv_okk (S0_inv (n := 0) (by decide)), ⟨S0_bits, S0_bits, S0_bits, S0_bits⟩, isN_0 (by decide), fun _ _ => chr_0⟩
  -- the settings, then the steps
  have s4 : ∀ (F G : FT) (l4 l5 l6 l7 : Option Value), F.good → G.good → F.now = TK (cv N xs) 3 (ZO (cv N xs)) → G.now = TK (cv N xs) 3 (ZQ (cv N xs)) → Gd E lW 313 [some (.ref 1003), some (.ref 0), some (.ref 148), some (.int 1), l4, l5, l6, l7] [] (F, G) := by
    intro F G l4 l5 l6 l7 gF gG eF eG
    obtain ⟨z1, z2, z3⟩ := zs_su (cv N xs)
    obtain ⟨F1, p1, g1, f1, i1⟩ := su_set z2 gF eF (m := upN (cv N xs 9) 60) (upN_lt _ (by decide))
    obtain ⟨G1, p2, g2, f2, i2⟩ := su_set z3 gG eG (m := upN (cv N xs 9) 60) (upN_lt _ (by decide))
    have hu : up (cv N xs 9) 60 = nI (upN (cv N xs 9) 60) := up_nI _ (d := 60) (by decide) (by decide)
    have ht := tw_su g1 g2 f1 f2 i1
    have hk := lw_steps C hN fin 34 10 (by decide) F1 G1 l5 l6 l7 ht
    have c0 : ConT N xs yL_cell cL_cell 2 (some .int) 0 lW [.ref 1003, .int 9] (F, G) (some (.int (cv N xs 9))) (F, G) := con_L_cell (xs := xs) hN (k := 9) (by decide) (F, G)
    have c1 : ConT N xs yL_cell cL_cell 2 (some .int) 0 lW [.ref 1003, .int 9] (F1, G) (some (.int (cv N xs 9))) (F1, G) := con_L_cell (xs := xs) hN (k := 9) (by decide) (F1, G)
    rw [show nI 10 = (10 : Int32) from rfl] at hk
    rw [← hu] at p1 p2
    (refine nx1_ok C cut_L_law 1000 ?_; simp only [w_L_law, ops_eq, xst_eq, call_eq, oK_eq, Option.toList_some, Option.toList_none, List.cons_append, List.nil_append, List.length_cons, List.length_nil, true_and, and_true, Nat.reduceAdd, O_g_eq, O_s_eq, O_t_eq, O_z2, spG_eq, se_L_up, l_eq, z_eq, false_implies, true_implies, implies_true, not_true_eq_false, not_false_eq_true, Nat.reduceLeDiff, Nat.zero_le])
    exact ⟨cv N xs 9, (F, G), c0, 0, F1, p1, fun z => absurd rfl z, fun _ => ⟨cv N xs 9, (F1, G), c1, 0, G1, p2, fun z => absurd rfl z, fun _ => hk⟩⟩
  -- the second station's programmes
  have s3 : ∀ (F : FT), F.good → F.now = TK (cv N xs) 3 (ZO (cv N xs)) → ∀ (f k : Nat), k + f = 3 → ∀ (G : FT) (l5 l6 l7 : Option Value), G.good → G.now = TK (cv N xs) 3 (ZP (fun i => frm (cv N xs) (8 - i)) (fun i => nI (202 - i)) (ZK (fun i => dm (cv N xs) (5 - i)) 3) k) → Gd E lW 253 [some (.ref 1003), some (.ref 0), some (.ref 148), some (.int 1), some (.int (nI k)), l5, l6, l7] [] (F, G) := by
    intro F gF eF f
    induction f with
    | zero =>
      intro k hk G l5 l6 l7 gG eG
      have e : k = 3 := by omega
      subst e
      have hx : ¬ nI 3 < (3 : Int32) := by decide
      have hn := s4 F G (some (.int (nI 3))) l5 l6 l7 gF gG eF eG
      (refine nx1_ok C cut_L_law 1000 ?_; simp only [w_L_law, ops_eq, xst_eq, call_eq, oK_eq, Option.toList_some, Option.toList_none, List.cons_append, List.nil_append, List.length_cons, List.length_nil, true_and, and_true, Nat.reduceAdd, O_g_eq, O_s_eq, O_t_eq, O_z2, spG_eq, se_L_up, l_eq, z_eq, false_implies, true_implies, implies_true, not_true_eq_false, not_false_eq_true, Nat.reduceLeDiff, Nat.zero_le, hx])
      exact hn
    | succ f ih =>
      intro k hk G l5 l6 l7 gG eG
      exact lw_progQ C hN (by omega) l5 l6 l7 gG eG (fun G' l5 l6 l7 gG' eG' => ih (k + 1) (by omega) G' l5 l6 l7 gG' eG')
  -- the first one's
  have s2 : ∀ (G : FT), G.good → G.now = TK (cv N xs) 3 (ZK (fun i => dm (cv N xs) (5 - i)) 3) → ∀ (f k : Nat), k + f = 3 → ∀ (F : FT) (l5 l6 l7 : Option Value), F.good → F.now = TK (cv N xs) 3 (ZP (fun i => frm (cv N xs) (6 + i)) (fun i => nI (200 + i)) (ZK (fun i => dm (cv N xs) (3 + i)) 3) k) → Gd E lW 190 [some (.ref 1003), some (.ref 0), some (.ref 148), some (.int 1), some (.int (nI k)), l5, l6, l7] [] (F, G) := by
    intro G gG eG f
    induction f with
    | zero =>
      intro k hk F l5 l6 l7 gF eF
      have e : k = 3 := by omega
      subst e
      have hx : ¬ nI 3 < (3 : Int32) := by decide
      have hn := s3 F gF eF 3 0 (by decide) G l5 l6 l7 gG eG
      rw [nI_0] at hn
      (refine nx1_ok C cut_L_law 1000 ?_; simp only [w_L_law, ops_eq, xst_eq, call_eq, oK_eq, Option.toList_some, Option.toList_none, List.cons_append, List.nil_append, List.length_cons, List.length_nil, true_and, and_true, Nat.reduceAdd, O_g_eq, O_s_eq, O_t_eq, O_z2, spG_eq, se_L_up, l_eq, z_eq, false_implies, true_implies, implies_true, not_true_eq_false, not_false_eq_true, Nat.reduceLeDiff, Nat.zero_le, hx])
      exact hn
    | succ f ih =>
      intro k hk F l5 l6 l7 gF eF
      exact lw_progO C hN (by omega) l5 l6 l7 gF eF (fun F' l5 l6 l7 gF' eF' => ih (k + 1) (by omega) F' l5 l6 l7 gF' eF')
  -- pumps and zones
  have s1 : ∀ (f k : Nat), k + f = 3 → ∀ (F G : FT) (l5 l6 l7 : Option Value), F.good → G.good → F.now = TK (cv N xs) k (ZK (fun i => dm (cv N xs) (3 + i)) k) → G.now = TK (cv N xs) k (ZK (fun i => dm (cv N xs) (5 - i)) k) → Gd E lW 21 [some (.ref 1003), some (.ref 0), some (.ref 148), some (.int 1), some (.int (nI k)), l5, l6, l7] [] (F, G) := by
    intro f
    induction f with
    | zero =>
      intro k hk F G l5 l6 l7 gF gG eF eG
      have e : k = 3 := by omega
      subst e
      have hx : ¬ nI 3 < (3 : Int32) := by decide
      have hn := s2 G gG eG 3 0 (by decide) F l5 l6 l7 gF eF
      rw [nI_0] at hn
      (refine nx1_ok C cut_L_law 1000 ?_; simp only [w_L_law, ops_eq, xst_eq, call_eq, oK_eq, Option.toList_some, Option.toList_none, List.cons_append, List.nil_append, List.length_cons, List.length_nil, true_and, and_true, Nat.reduceAdd, O_g_eq, O_s_eq, O_t_eq, O_z2, spG_eq, se_L_up, l_eq, z_eq, false_implies, true_implies, implies_true, not_true_eq_false, not_false_eq_true, Nat.reduceLeDiff, Nat.zero_le, hx])
      exact hn
    | succ f ih =>
      intro k hk F G l5 l6 l7 gF gG eF eG
      exact lw_first C hN (by omega) l5 l6 l7 gF gG eF eG (fun F' G' l5 l6 l7 gF' gG' eF' eG' => ih (k + 1) (by omega) F' G' l5 l6 l7 gF' gG' eF' eG')
  have hk := s1 3 0 (by decide) FP0 FP0 none none none g0 g0 rfl rfl
  rw [nI_0] at hk
  (refine nx_ok C (cuts := cut_L_law) 1000 _ _ _ _ ?_; simp only [w_L_law, ops_eq, xst_eq, call_eq, oK_eq, Option.toList_some, Option.toList_none, List.cons_append, List.nil_append, List.length_cons, List.length_nil, true_and, and_true, Nat.reduceAdd, O_g_eq, O_s_eq, O_t_eq, O_z2, spG_eq, se_L_up, l_eq, z_eq, false_implies, true_implies, implies_true, not_true_eq_false, not_false_eq_true, Nat.reduceLeDiff, Nat.zero_le])
  exact hk
end
