/-! ===== the reference: a minute ===== -/
def cod_X7_countAll : List (Nat × Op QT) := [(0, O_aload 0 1), (1, O_callV 0 0 (fun S => S) (fun _ S' => S') sp_X7_running), (4, O_if_le 11), (7, O_int 1 1), (8, O_goto 12), (11, O_int 0 1), (12, O_istore 1 1), (13, O_aload 0 1), (14, O_getf aW 7 0), (17, O_int 4 1), (18, O_ald aW 0), (19, O_int (-1) 1), (20, O_icmp_eq 33), (23, O_aload 0 1), (24, O_callV 0 0 (fun S => S) (fun _ S' => S') sp_X7_speedOfVariable), (27, O_int 1000 3), (30, O_icmp_ne 37), (33, O_int 1 1), (34, O_goto 38), (37, O_int 0 1), (38, O_istore 2 1), (39, O_aload 0 1), (40, O_getf aW 7 0), (43, O_int 4 1), (44, O_ald aW 0), (45, O_int (-1) 1), (46, O_icmp_eq 61), (49, O_aload 0 1), (50, O_callV 0 0 (fun S => S) (fun _ S' => S') sp_X7_speedOfVariable), (53, O_aload 0 1), (54, O_int 4 1), (55, O_callV 1 0 (fun S => S) (fun _ S' => S') sp_X7_setting), (58, O_icmp_ne 65), (61, O_int 1 1), (62, O_goto 66), (65, O_int 0 1), (66, O_istore 3 1), (67, O_aload 0 1), (68, O_callV 0 0 (fun S => S) (fun _ S' => S') sp_X7_running), (71, O_int 1 1), (72, O_icmp_ne 89), (75, O_aload 0 1), (76, O_getf aW 7 0), (79, O_int 4 1), (80, O_ald aW 0), (81, O_int (-1) 1), (82, O_icmp_eq 89), (85, O_int 1 1), (86, O_goto 90), (89, O_int 0 1), (90, O_istore 4 2), (92, O_aload 0 1), (93, O_int 10 2), (95, O_iload 1 1), (96, O_if_eq 127), (99, O_iload 2 1), (100, O_if_eq 127), (103, O_aload 0 1), (104, O_getf aW 7 0), (107, O_int 1 1), (108, O_ald aW 0), (109, O_aload 0 1), (110, O_int 0 1), (111, O_callV 1 0 (fun S => S) (fun _ S' => S') sp_X7_setting), (114, O_aload 0 1), (115, O_int 1 1), (116, O_callV 1 0 (fun S => S) (fun _ S' => S') sp_X7_setting), (119, O_isub), (120, O_icmp_ge 127), (123, O_int 1 1), (124, O_goto 128), (127, O_int 0 1), (128, O_callV 2 0 (fun S => S) (fun _ S' => S') sp_X7_counts), (131, O_aload 0 1), (132, O_int 11 2), (134, O_iload 1 1), (135, O_if_eq 166), (138, O_iload 3 1), (139, O_if_eq 166), (142, O_aload 0 1), (143, O_getf aW 7 0), (146, O_int 1 1), (147, O_ald aW 0), (148, O_aload 0 1), (149, O_int 0 1), (150, O_callV 1 0 (fun S => S) (fun _ S' => S') sp_X7_setting), (153, O_aload 0 1), (154, O_int 1 1), (155, O_callV 1 0 (fun S => S) (fun _ S' => S') sp_X7_setting), (158, O_iadd), (159, O_icmp_le 166), (162, O_int 1 1), (163, O_goto 167), (166, O_int 0 1), (167, O_callV 2 0 (fun S => S) (fun _ S' => S') sp_X7_counts), (170, O_aload 0 1), (171, O_int 12 2), (173, O_iload 4 2), (175, O_if_eq 201), (178, O_iload 3 1), (179, O_if_eq 201), (182, O_aload 0 1), (183, O_getf aW 7 0), (186, O_int 3 1), (187, O_ald aW 0), (188, O_aload 0 1), (189, O_int 7 2), (191, O_callV 1 0 (fun S => S) (fun _ S' => S') sp_X7_setting), (194, O_icmp_ge 201), (197, O_int 1 1), (198, O_goto 202), (201, O_int 0 1), (202, O_callV 2 0 (fun S => S) (fun _ S' => S') sp_X7_counts), (205, O_vret)]
abbrev cut_X7_countAll : List Nat := [13, 39, 67, 92, 131, 170]
set_option maxRecDepth 100000 in
theorem okc_X7_countAll {E : En} (F : Fx E RX7 cX7_countAll 5 3) (G : Fr E none) : CodOk E aW cod_X7_countAll := by
  unfold CodOk cod_X7_countAll
  refine List.forall_mem_cons.mpr ⟨ok_aload_n F dX7_countAll_0 rfl (by decide), ?_⟩
  refine List.forall_mem_cons.mpr ⟨ok_callV F spok_X7_running (ln_id aW) rcv_aW (by decide +kernel) (by decide) dX7_countAll_1 (by decide), ?_⟩
  refine List.forall_mem_cons.mpr ⟨ok_if_le F dX7_countAll_4 (by decide) (by decide) (by decide), ?_⟩
  refine List.forall_mem_cons.mpr ⟨ok_iconst F dX7_countAll_7 (by decide) (by decide), ?_⟩
  refine List.forall_mem_cons.mpr ⟨ok_goto F dX7_countAll_8 (by decide) (by decide) (by decide), ?_⟩
  refine List.forall_mem_cons.mpr ⟨ok_iconst F dX7_countAll_11 (by decide) (by decide), ?_⟩
  refine List.forall_mem_cons.mpr ⟨ok_istore_n F dX7_countAll_12 rfl (by decide) (by decide), ?_⟩
  refine List.forall_mem_cons.mpr ⟨ok_aload_n F dX7_countAll_13 rfl (by decide), ?_⟩
  refine List.forall_mem_cons.mpr ⟨ok_getf F flX7_7 dX7_countAll_14 (by decide), ?_⟩
  refine List.forall_mem_cons.mpr ⟨ok_iconst F dX7_countAll_17 (by decide) (by decide), ?_⟩
  refine List.forall_mem_cons.mpr ⟨ok_iald F dX7_countAll_18 (by decide), ?_⟩
  refine List.forall_mem_cons.mpr ⟨ok_iconst F dX7_countAll_19 (by decide) (by decide), ?_⟩
  refine List.forall_mem_cons.mpr ⟨ok_icmp_eq F dX7_countAll_20 (by decide) (by decide) (by decide), ?_⟩
  refine List.forall_mem_cons.mpr ⟨ok_aload_n F dX7_countAll_23 rfl (by decide), ?_⟩
  refine List.forall_mem_cons.mpr ⟨ok_callV F spok_X7_speedOfVariable (ln_id aW) rcv_aW (by decide +kernel) (by decide) dX7_countAll_24 (by decide), ?_⟩
  refine List.forall_mem_cons.mpr ⟨ok_sipush F dX7_countAll_27 (by decide) (by decide), ?_⟩
  refine List.forall_mem_cons.mpr ⟨ok_icmp_ne F dX7_countAll_30 (by decide) (by decide) (by decide), ?_⟩
  refine List.forall_mem_cons.mpr ⟨ok_iconst F dX7_countAll_33 (by decide) (by decide), ?_⟩
  refine List.forall_mem_cons.mpr ⟨ok_goto F dX7_countAll_34 (by decide) (by decide) (by decide), ?_⟩
  refine List.forall_mem_cons.mpr ⟨ok_iconst F dX7_countAll_37 (by decide) (by decide), ?_⟩
  refine List.forall_mem_cons.mpr ⟨ok_istore_n F dX7_countAll_38 rfl (by decide) (by decide), ?_⟩
  refine List.forall_mem_cons.mpr ⟨ok_aload_n F dX7_countAll_39 rfl (by decide), ?_⟩
  refine List.forall_mem_cons.mpr ⟨ok_getf F flX7_7 dX7_countAll_40 (by decide), ?_⟩
  refine List.forall_mem_cons.mpr ⟨ok_iconst F dX7_countAll_43 (by decide) (by decide), ?_⟩
  refine List.forall_mem_cons.mpr ⟨ok_iald F dX7_countAll_44 (by decide), ?_⟩
  refine List.forall_mem_cons.mpr ⟨ok_iconst F dX7_countAll_45 (by decide) (by decide), ?_⟩
  refine List.forall_mem_cons.mpr ⟨ok_icmp_eq F dX7_countAll_46 (by decide) (by decide) (by decide), ?_⟩
  refine List.forall_mem_cons.mpr ⟨ok_aload_n F dX7_countAll_49 rfl (by decide), ?_⟩
  refine List.forall_mem_cons.mpr ⟨ok_callV F spok_X7_speedOfVariable (ln_id aW) rcv_aW (by decide +kernel) (by decide) dX7_countAll_50 (by decide), ?_⟩
  refine List.forall_mem_cons.mpr ⟨ok_aload_n F dX7_countAll_53 rfl (by decide), ?_⟩
  refine List.forall_mem_cons.mpr ⟨ok_iconst F dX7_countAll_54 (by decide) (by decide), ?_⟩
  refine List.forall_mem_cons.mpr ⟨ok_callV F spok_X7_setting (ln_id aW) rcv_aW (by decide +kernel) (by decide) dX7_countAll_55 (by decide), ?_⟩
  refine List.forall_mem_cons.mpr ⟨ok_icmp_ne F dX7_countAll_58 (by decide) (by decide) (by decide), ?_⟩
  refine List.forall_mem_cons.mpr ⟨ok_iconst F dX7_countAll_61 (by decide) (by decide), ?_⟩
  refine List.forall_mem_cons.mpr ⟨ok_goto F dX7_countAll_62 (by decide) (by decide) (by decide), ?_⟩
  refine List.forall_mem_cons.mpr ⟨ok_iconst F dX7_countAll_65 (by decide) (by decide), ?_⟩
  refine List.forall_mem_cons.mpr ⟨ok_istore_n F dX7_countAll_66 rfl (by decide) (by decide), ?_⟩
  refine List.forall_mem_cons.mpr ⟨ok_aload_n F dX7_countAll_67 rfl (by decide), ?_⟩
  refine List.forall_mem_cons.mpr ⟨ok_callV F spok_X7_running (ln_id aW) rcv_aW (by decide +kernel) (by decide) dX7_countAll_68 (by decide), ?_⟩
  refine List.forall_mem_cons.mpr ⟨ok_iconst F dX7_countAll_71 (by decide) (by decide), ?_⟩
  refine List.forall_mem_cons.mpr ⟨ok_icmp_ne F dX7_countAll_72 (by decide) (by decide) (by decide), ?_⟩
  refine List.forall_mem_cons.mpr ⟨ok_aload_n F dX7_countAll_75 rfl (by decide), ?_⟩
  refine List.forall_mem_cons.mpr ⟨ok_getf F flX7_7 dX7_countAll_76 (by decide), ?_⟩
  refine List.forall_mem_cons.mpr ⟨ok_iconst F dX7_countAll_79 (by decide) (by decide), ?_⟩
  refine List.forall_mem_cons.mpr ⟨ok_iald F dX7_countAll_80 (by decide), ?_⟩
  refine List.forall_mem_cons.mpr ⟨ok_iconst F dX7_countAll_81 (by decide) (by decide), ?_⟩
  refine List.forall_mem_cons.mpr ⟨ok_icmp_eq F dX7_countAll_82 (by decide) (by decide) (by decide), ?_⟩
  refine List.forall_mem_cons.mpr ⟨ok_iconst F dX7_countAll_85 (by decide) (by decide), ?_⟩
  refine List.forall_mem_cons.mpr ⟨ok_goto F dX7_countAll_86 (by decide) (by decide) (by decide), ?_⟩
  refine List.forall_mem_cons.mpr ⟨ok_iconst F dX7_countAll_89 (by decide) (by decide), ?_⟩
  refine List.forall_mem_cons.mpr ⟨ok_istore F dX7_countAll_90 (by decide) (by decide), ?_⟩
  refine List.forall_mem_cons.mpr ⟨ok_aload_n F dX7_countAll_92 rfl (by decide), ?_⟩
  refine List.forall_mem_cons.mpr ⟨ok_bipush F dX7_countAll_93 (by decide) (by decide), ?_⟩
  refine List.forall_mem_cons.mpr ⟨ok_iload_n F dX7_countAll_95 rfl (by decide), ?_⟩
  refine List.forall_mem_cons.mpr ⟨ok_if_eq F dX7_countAll_96 (by decide) (by decide) (by decide), ?_⟩
  refine List.forall_mem_cons.mpr ⟨ok_iload_n F dX7_countAll_99 rfl (by decide), ?_⟩
  refine List.forall_mem_cons.mpr ⟨ok_if_eq F dX7_countAll_100 (by decide) (by decide) (by decide), ?_⟩
  refine List.forall_mem_cons.mpr ⟨ok_aload_n F dX7_countAll_103 rfl (by decide), ?_⟩
  refine List.forall_mem_cons.mpr ⟨ok_getf F flX7_7 dX7_countAll_104 (by decide), ?_⟩
  refine List.forall_mem_cons.mpr ⟨ok_iconst F dX7_countAll_107 (by decide) (by decide), ?_⟩
  refine List.forall_mem_cons.mpr ⟨ok_iald F dX7_countAll_108 (by decide), ?_⟩
  refine List.forall_mem_cons.mpr ⟨ok_aload_n F dX7_countAll_109 rfl (by decide), ?_⟩
  refine List.forall_mem_cons.mpr ⟨ok_iconst F dX7_countAll_110 (by decide) (by decide), ?_⟩
  refine List.forall_mem_cons.mpr ⟨ok_callV F spok_X7_setting (ln_id aW) rcv_aW (by decide +kernel) (by decide) dX7_countAll_111 (by decide), ?_⟩
  refine List.forall_mem_cons.mpr ⟨ok_aload_n F dX7_countAll_114 rfl (by decide), ?_⟩
  refine List.forall_mem_cons.mpr ⟨ok_iconst F dX7_countAll_115 (by decide) (by decide), ?_⟩
  refine List.forall_mem_cons.mpr ⟨ok_callV F spok_X7_setting (ln_id aW) rcv_aW (by decide +kernel) (by decide) dX7_countAll_116 (by decide), ?_⟩
  refine List.forall_mem_cons.mpr ⟨ok_isub F dX7_countAll_119 (by decide), ?_⟩
  refine List.forall_mem_cons.mpr ⟨ok_icmp_ge F dX7_countAll_120 (by decide) (by decide) (by decide), ?_⟩
  refine List.forall_mem_cons.mpr ⟨ok_iconst F dX7_countAll_123 (by decide) (by decide), ?_⟩
  refine List.forall_mem_cons.mpr ⟨ok_goto F dX7_countAll_124 (by decide) (by decide) (by decide), ?_⟩
  refine List.forall_mem_cons.mpr ⟨ok_iconst F dX7_countAll_127 (by decide) (by decide), ?_⟩
  refine List.forall_mem_cons.mpr ⟨ok_callV F spok_X7_counts (ln_id aW) rcv_aW (by decide +kernel) (by decide) dX7_countAll_128 (by decide), ?_⟩
  refine List.forall_mem_cons.mpr ⟨ok_aload_n F dX7_countAll_131 rfl (by decide), ?_⟩
  refine List.forall_mem_cons.mpr ⟨ok_bipush F dX7_countAll_132 (by decide) (by decide), ?_⟩
  refine List.forall_mem_cons.mpr ⟨ok_iload_n F dX7_countAll_134 rfl (by decide), ?_⟩
  refine List.forall_mem_cons.mpr ⟨ok_if_eq F dX7_countAll_135 (by decide) (by decide) (by decide), ?_⟩
  refine List.forall_mem_cons.mpr ⟨ok_iload_n F dX7_countAll_138 rfl (by decide), ?_⟩
  refine List.forall_mem_cons.mpr ⟨ok_if_eq F dX7_countAll_139 (by decide) (by decide) (by decide), ?_⟩
  refine List.forall_mem_cons.mpr ⟨ok_aload_n F dX7_countAll_142 rfl (by decide), ?_⟩
  refine List.forall_mem_cons.mpr ⟨ok_getf F flX7_7 dX7_countAll_143 (by decide), ?_⟩
  refine List.forall_mem_cons.mpr ⟨ok_iconst F dX7_countAll_146 (by decide) (by decide), ?_⟩
  refine List.forall_mem_cons.mpr ⟨ok_iald F dX7_countAll_147 (by decide), ?_⟩
  refine List.forall_mem_cons.mpr ⟨ok_aload_n F dX7_countAll_148 rfl (by decide), ?_⟩
  refine List.forall_mem_cons.mpr ⟨ok_iconst F dX7_countAll_149 (by decide) (by decide), ?_⟩
  refine List.forall_mem_cons.mpr ⟨ok_callV F spok_X7_setting (ln_id aW) rcv_aW (by decide +kernel) (by decide) dX7_countAll_150 (by decide), ?_⟩
  refine List.forall_mem_cons.mpr ⟨ok_aload_n F dX7_countAll_153 rfl (by decide), ?_⟩
  refine List.forall_mem_cons.mpr ⟨ok_iconst F dX7_countAll_154 (by decide) (by decide), ?_⟩
  refine List.forall_mem_cons.mpr ⟨ok_callV F spok_X7_setting (ln_id aW) rcv_aW (by decide +kernel) (by decide) dX7_countAll_155 (by decide), ?_⟩
  refine List.forall_mem_cons.mpr ⟨ok_iadd F dX7_countAll_158 (by decide), ?_⟩
  refine List.forall_mem_cons.mpr ⟨ok_icmp_le F dX7_countAll_159 (by decide) (by decide) (by decide), ?_⟩
  refine List.forall_mem_cons.mpr ⟨ok_iconst F dX7_countAll_162 (by decide) (by decide), ?_⟩
  refine List.forall_mem_cons.mpr ⟨ok_goto F dX7_countAll_163 (by decide) (by decide) (by decide), ?_⟩
  refine List.forall_mem_cons.mpr ⟨ok_iconst F dX7_countAll_166 (by decide) (by decide), ?_⟩
  refine List.forall_mem_cons.mpr ⟨ok_callV F spok_X7_counts (ln_id aW) rcv_aW (by decide +kernel) (by decide) dX7_countAll_167 (by decide), ?_⟩
  refine List.forall_mem_cons.mpr ⟨ok_aload_n F dX7_countAll_170 rfl (by decide), ?_⟩
  refine List.forall_mem_cons.mpr ⟨ok_bipush F dX7_countAll_171 (by decide) (by decide), ?_⟩
  refine List.forall_mem_cons.mpr ⟨ok_iload F dX7_countAll_173 (by decide), ?_⟩
  refine List.forall_mem_cons.mpr ⟨ok_if_eq F dX7_countAll_175 (by decide) (by decide) (by decide), ?_⟩
  refine List.forall_mem_cons.mpr ⟨ok_iload_n F dX7_countAll_178 rfl (by decide), ?_⟩
  refine List.forall_mem_cons.mpr ⟨ok_if_eq F dX7_countAll_179 (by decide) (by decide) (by decide), ?_⟩
  refine List.forall_mem_cons.mpr ⟨ok_aload_n F dX7_countAll_182 rfl (by decide), ?_⟩
  refine List.forall_mem_cons.mpr ⟨ok_getf F flX7_7 dX7_countAll_183 (by decide), ?_⟩
  refine List.forall_mem_cons.mpr ⟨ok_iconst F dX7_countAll_186 (by decide) (by decide), ?_⟩
  refine List.forall_mem_cons.mpr ⟨ok_iald F dX7_countAll_187 (by decide), ?_⟩
  refine List.forall_mem_cons.mpr ⟨ok_aload_n F dX7_countAll_188 rfl (by decide), ?_⟩
  refine List.forall_mem_cons.mpr ⟨ok_bipush F dX7_countAll_189 (by decide) (by decide), ?_⟩
  refine List.forall_mem_cons.mpr ⟨ok_callV F spok_X7_setting (ln_id aW) rcv_aW (by decide +kernel) (by decide) dX7_countAll_191 (by decide), ?_⟩
  refine List.forall_mem_cons.mpr ⟨ok_icmp_ge F dX7_countAll_194 (by decide) (by decide) (by decide), ?_⟩
  refine List.forall_mem_cons.mpr ⟨ok_iconst F dX7_countAll_197 (by decide) (by decide), ?_⟩
  refine List.forall_mem_cons.mpr ⟨ok_goto F dX7_countAll_198 (by decide) (by decide) (by decide), ?_⟩
  refine List.forall_mem_cons.mpr ⟨ok_iconst F dX7_countAll_201 (by decide) (by decide), ?_⟩
  refine List.forall_mem_cons.mpr ⟨ok_callV F spok_X7_counts (ln_id aW) rcv_aW (by decide +kernel) (by decide) dX7_countAll_202 (by decide), ?_⟩
  refine List.forall_mem_cons.mpr ⟨ok_vret F G dX7_countAll_205 (by decide), ?_⟩
  exact fun _ h => absurd h List.not_mem_nil
set_option maxRecDepth 100000 in
theorem w_X7_countAll : (∀ (K : Kt QT) (n : Nat) (L : xL) (st : List Value) (S : QT), nx cod_X7_countAll cut_X7_countAll K (n + 1) 0 L st S = (O_aload 0 1) (nx cod_X7_countAll cut_X7_countAll K n) 0 L st S) ∧
  (∀ (K : Kt QT) (n : Nat) (L : xL) (st : List Value) (S : QT), nx cod_X7_countAll cut_X7_countAll K (n + 1) 1 L st S = (O_callV 0 0 (fun S => S) (fun _ S' => S') sp_X7_running) (nx cod_X7_countAll cut_X7_countAll K n) 1 L st S) ∧
  (∀ (K : Kt QT) (n : Nat) (L : xL) (st : List Value) (S : QT), nx cod_X7_countAll cut_X7_countAll K (n + 1) 4 L st S = (O_if_le 11) (nx cod_X7_countAll cut_X7_countAll K n) 4 L st S) ∧
  (∀ (K : Kt QT) (n : Nat) (L : xL) (st : List Value) (S : QT), nx cod_X7_countAll cut_X7_countAll K (n + 1) 7 L st S = (O_int 1 1) (nx cod_X7_countAll cut_X7_countAll K n) 7 L st S) ∧
  (∀ (K : Kt QT) (n : Nat) (L : xL) (st : List Value) (S : QT), nx cod_X7_countAll cut_X7_countAll K (n + 1) 8 L st S = (O_goto 12) (nx cod_X7_countAll cut_X7_countAll K n) 8 L st S) ∧
  (∀ (K : Kt QT) (n : Nat) (L : xL) (st : List Value) (S : QT), nx cod_X7_countAll cut_X7_countAll K (n + 1) 11 L st S = (O_int 0 1) (nx cod_X7_countAll cut_X7_countAll K n) 11 L st S) ∧
  (∀ (K : Kt QT) (n : Nat) (L : xL) (st : List Value) (S : QT), nx cod_X7_countAll cut_X7_countAll K (n + 1) 12 L st S = (O_istore 1 1) (nx cod_X7_countAll cut_X7_countAll K n) 12 L st S) ∧
  (∀ (K : Kt QT) (n : Nat) (L : xL) (st : List Value) (S : QT), nx cod_X7_countAll cut_X7_countAll K (n + 1) 13 L st S = K 13 L st S) ∧
  (∀ (K : Kt QT) (n : Nat) (L : xL) (st : List Value) (S : QT), nx1 cod_X7_countAll cut_X7_countAll K n 13 L st S = (O_aload 0 1) (nx cod_X7_countAll cut_X7_countAll K n) 13 L st S) ∧
  (∀ (K : Kt QT) (n : Nat) (L : xL) (st : List Value) (S : QT), nx cod_X7_countAll cut_X7_countAll K (n + 1) 14 L st S = (O_getf aW 7 0) (nx cod_X7_countAll cut_X7_countAll K n) 14 L st S) ∧
  (∀ (K : Kt QT) (n : Nat) (L : xL) (st : List Value) (S : QT), nx cod_X7_countAll cut_X7_countAll K (n + 1) 17 L st S = (O_int 4 1) (nx cod_X7_countAll cut_X7_countAll K n) 17 L st S) ∧
  (∀ (K : Kt QT) (n : Nat) (L : xL) (st : List Value) (S : QT), nx cod_X7_countAll cut_X7_countAll K (n + 1) 18 L st S = (O_ald aW 0) (nx cod_X7_countAll cut_X7_countAll K n) 18 L st S) ∧
  (∀ (K : Kt QT) (n : Nat) (L : xL) (st : List Value) (S : QT), nx cod_X7_countAll cut_X7_countAll K (n + 1) 19 L st S = (O_int (-1) 1) (nx cod_X7_countAll cut_X7_countAll K n) 19 L st S) ∧
  (∀ (K : Kt QT) (n : Nat) (L : xL) (st : List Value) (S : QT), nx cod_X7_countAll cut_X7_countAll K (n + 1) 20 L st S = (O_icmp_eq 33) (nx cod_X7_countAll cut_X7_countAll K n) 20 L st S) ∧
  (∀ (K : Kt QT) (n : Nat) (L : xL) (st : List Value) (S : QT), nx cod_X7_countAll cut_X7_countAll K (n + 1) 23 L st S = (O_aload 0 1) (nx cod_X7_countAll cut_X7_countAll K n) 23 L st S) ∧
  (∀ (K : Kt QT) (n : Nat) (L : xL) (st : List Value) (S : QT), nx cod_X7_countAll cut_X7_countAll K (n + 1) 24 L st S = (O_callV 0 0 (fun S => S) (fun _ S' => S') sp_X7_speedOfVariable) (nx cod_X7_countAll cut_X7_countAll K n) 24 L st S) ∧
  (∀ (K : Kt QT) (n : Nat) (L : xL) (st : List Value) (S : QT), nx cod_X7_countAll cut_X7_countAll K (n + 1) 27 L st S = (O_int 1000 3) (nx cod_X7_countAll cut_X7_countAll K n) 27 L st S) ∧
  (∀ (K : Kt QT) (n : Nat) (L : xL) (st : List Value) (S : QT), nx cod_X7_countAll cut_X7_countAll K (n + 1) 30 L st S = (O_icmp_ne 37) (nx cod_X7_countAll cut_X7_countAll K n) 30 L st S) ∧
  (∀ (K : Kt QT) (n : Nat) (L : xL) (st : List Value) (S : QT), nx cod_X7_countAll cut_X7_countAll K (n + 1) 33 L st S = (O_int 1 1) (nx cod_X7_countAll cut_X7_countAll K n) 33 L st S) ∧
  (∀ (K : Kt QT) (n : Nat) (L : xL) (st : List Value) (S : QT), nx cod_X7_countAll cut_X7_countAll K (n + 1) 34 L st S = (O_goto 38) (nx cod_X7_countAll cut_X7_countAll K n) 34 L st S) ∧
  (∀ (K : Kt QT) (n : Nat) (L : xL) (st : List Value) (S : QT), nx cod_X7_countAll cut_X7_countAll K (n + 1) 37 L st S = (O_int 0 1) (nx cod_X7_countAll cut_X7_countAll K n) 37 L st S) ∧
  (∀ (K : Kt QT) (n : Nat) (L : xL) (st : List Value) (S : QT), nx cod_X7_countAll cut_X7_countAll K (n + 1) 38 L st S = (O_istore 2 1) (nx cod_X7_countAll cut_X7_countAll K n) 38 L st S) ∧
  (∀ (K : Kt QT) (n : Nat) (L : xL) (st : List Value) (S : QT), nx cod_X7_countAll cut_X7_countAll K (n + 1) 39 L st S = K 39 L st S) ∧
  (∀ (K : Kt QT) (n : Nat) (L : xL) (st : List Value) (S : QT), nx1 cod_X7_countAll cut_X7_countAll K n 39 L st S = (O_aload 0 1) (nx cod_X7_countAll cut_X7_countAll K n) 39 L st S) ∧
  (∀ (K : Kt QT) (n : Nat) (L : xL) (st : List Value) (S : QT), nx cod_X7_countAll cut_X7_countAll K (n + 1) 40 L st S = (O_getf aW 7 0) (nx cod_X7_countAll cut_X7_countAll K n) 40 L st S) ∧
  (∀ (K : Kt QT) (n : Nat) (L : xL) (st : List Value) (S : QT), nx cod_X7_countAll cut_X7_countAll K (n + 1) 43 L st S = (O_int 4 1) (nx cod_X7_countAll cut_X7_countAll K n) 43 L st S) ∧
  (∀ (K : Kt QT) (n : Nat) (L : xL) (st : List Value) (S : QT), nx cod_X7_countAll cut_X7_countAll K (n + 1) 44 L st S = (O_ald aW 0) (nx cod_X7_countAll cut_X7_countAll K n) 44 L st S) ∧
  (∀ (K : Kt QT) (n : Nat) (L : xL) (st : List Value) (S : QT), nx cod_X7_countAll cut_X7_countAll K (n + 1) 45 L st S = (O_int (-1) 1) (nx cod_X7_countAll cut_X7_countAll K n) 45 L st S) ∧
  (∀ (K : Kt QT) (n : Nat) (L : xL) (st : List Value) (S : QT), nx cod_X7_countAll cut_X7_countAll K (n + 1) 46 L st S = (O_icmp_eq 61) (nx cod_X7_countAll cut_X7_countAll K n) 46 L st S) ∧
  (∀ (K : Kt QT) (n : Nat) (L : xL) (st : List Value) (S : QT), nx cod_X7_countAll cut_X7_countAll K (n + 1) 49 L st S = (O_aload 0 1) (nx cod_X7_countAll cut_X7_countAll K n) 49 L st S) ∧
  (∀ (K : Kt QT) (n : Nat) (L : xL) (st : List Value) (S : QT), nx cod_X7_countAll cut_X7_countAll K (n + 1) 50 L st S = (O_callV 0 0 (fun S => S) (fun _ S' => S') sp_X7_speedOfVariable) (nx cod_X7_countAll cut_X7_countAll K n) 50 L st S) ∧
  (∀ (K : Kt QT) (n : Nat) (L : xL) (st : List Value) (S : QT), nx cod_X7_countAll cut_X7_countAll K (n + 1) 53 L st S = (O_aload 0 1) (nx cod_X7_countAll cut_X7_countAll K n) 53 L st S) ∧
  (∀ (K : Kt QT) (n : Nat) (L : xL) (st : List Value) (S : QT), nx cod_X7_countAll cut_X7_countAll K (n + 1) 54 L st S = (O_int 4 1) (nx cod_X7_countAll cut_X7_countAll K n) 54 L st S) ∧
  (∀ (K : Kt QT) (n : Nat) (L : xL) (st : List Value) (S : QT), nx cod_X7_countAll cut_X7_countAll K (n + 1) 55 L st S = (O_callV 1 0 (fun S => S) (fun _ S' => S') sp_X7_setting) (nx cod_X7_countAll cut_X7_countAll K n) 55 L st S) ∧
  (∀ (K : Kt QT) (n : Nat) (L : xL) (st : List Value) (S : QT), nx cod_X7_countAll cut_X7_countAll K (n + 1) 58 L st S = (O_icmp_ne 65) (nx cod_X7_countAll cut_X7_countAll K n) 58 L st S) ∧
  (∀ (K : Kt QT) (n : Nat) (L : xL) (st : List Value) (S : QT), nx cod_X7_countAll cut_X7_countAll K (n + 1) 61 L st S = (O_int 1 1) (nx cod_X7_countAll cut_X7_countAll K n) 61 L st S) ∧
  (∀ (K : Kt QT) (n : Nat) (L : xL) (st : List Value) (S : QT), nx cod_X7_countAll cut_X7_countAll K (n + 1) 62 L st S = (O_goto 66) (nx cod_X7_countAll cut_X7_countAll K n) 62 L st S) ∧
  (∀ (K : Kt QT) (n : Nat) (L : xL) (st : List Value) (S : QT), nx cod_X7_countAll cut_X7_countAll K (n + 1) 65 L st S = (O_int 0 1) (nx cod_X7_countAll cut_X7_countAll K n) 65 L st S) ∧
  (∀ (K : Kt QT) (n : Nat) (L : xL) (st : List Value) (S : QT), nx cod_X7_countAll cut_X7_countAll K (n + 1) 66 L st S = (O_istore 3 1) (nx cod_X7_countAll cut_X7_countAll K n) 66 L st S) ∧
  (∀ (K : Kt QT) (n : Nat) (L : xL) (st : List Value) (S : QT), nx cod_X7_countAll cut_X7_countAll K (n + 1) 67 L st S = K 67 L st S) ∧
  (∀ (K : Kt QT) (n : Nat) (L : xL) (st : List Value) (S : QT), nx1 cod_X7_countAll cut_X7_countAll K n 67 L st S = (O_aload 0 1) (nx cod_X7_countAll cut_X7_countAll K n) 67 L st S) ∧
  (∀ (K : Kt QT) (n : Nat) (L : xL) (st : List Value) (S : QT), nx cod_X7_countAll cut_X7_countAll K (n + 1) 68 L st S = (O_callV 0 0 (fun S => S) (fun _ S' => S') sp_X7_running) (nx cod_X7_countAll cut_X7_countAll K n) 68 L st S) ∧
  (∀ (K : Kt QT) (n : Nat) (L : xL) (st : List Value) (S : QT), nx cod_X7_countAll cut_X7_countAll K (n + 1) 71 L st S = (O_int 1 1) (nx cod_X7_countAll cut_X7_countAll K n) 71 L st S) ∧
  (∀ (K : Kt QT) (n : Nat) (L : xL) (st : List Value) (S : QT), nx cod_X7_countAll cut_X7_countAll K (n + 1) 72 L st S = (O_icmp_ne 89) (nx cod_X7_countAll cut_X7_countAll K n) 72 L st S) ∧
  (∀ (K : Kt QT) (n : Nat) (L : xL) (st : List Value) (S : QT), nx cod_X7_countAll cut_X7_countAll K (n + 1) 75 L st S = (O_aload 0 1) (nx cod_X7_countAll cut_X7_countAll K n) 75 L st S) ∧
  (∀ (K : Kt QT) (n : Nat) (L : xL) (st : List Value) (S : QT), nx cod_X7_countAll cut_X7_countAll K (n + 1) 76 L st S = (O_getf aW 7 0) (nx cod_X7_countAll cut_X7_countAll K n) 76 L st S) ∧
  (∀ (K : Kt QT) (n : Nat) (L : xL) (st : List Value) (S : QT), nx cod_X7_countAll cut_X7_countAll K (n + 1) 79 L st S = (O_int 4 1) (nx cod_X7_countAll cut_X7_countAll K n) 79 L st S) ∧
  (∀ (K : Kt QT) (n : Nat) (L : xL) (st : List Value) (S : QT), nx cod_X7_countAll cut_X7_countAll K (n + 1) 80 L st S = (O_ald aW 0) (nx cod_X7_countAll cut_X7_countAll K n) 80 L st S) ∧
  (∀ (K : Kt QT) (n : Nat) (L : xL) (st : List Value) (S : QT), nx cod_X7_countAll cut_X7_countAll K (n + 1) 81 L st S = (O_int (-1) 1) (nx cod_X7_countAll cut_X7_countAll K n) 81 L st S) ∧
  (∀ (K : Kt QT) (n : Nat) (L : xL) (st : List Value) (S : QT), nx cod_X7_countAll cut_X7_countAll K (n + 1) 82 L st S = (O_icmp_eq 89) (nx cod_X7_countAll cut_X7_countAll K n) 82 L st S) ∧
  (∀ (K : Kt QT) (n : Nat) (L : xL) (st : List Value) (S : QT), nx cod_X7_countAll cut_X7_countAll K (n + 1) 85 L st S = (O_int 1 1) (nx cod_X7_countAll cut_X7_countAll K n) 85 L st S) ∧
  (∀ (K : Kt QT) (n : Nat) (L : xL) (st : List Value) (S : QT), nx cod_X7_countAll cut_X7_countAll K (n + 1) 86 L st S = (O_goto 90) (nx cod_X7_countAll cut_X7_countAll K n) 86 L st S) ∧
  (∀ (K : Kt QT) (n : Nat) (L : xL) (st : List Value) (S : QT), nx cod_X7_countAll cut_X7_countAll K (n + 1) 89 L st S = (O_int 0 1) (nx cod_X7_countAll cut_X7_countAll K n) 89 L st S) ∧
  (∀ (K : Kt QT) (n : Nat) (L : xL) (st : List Value) (S : QT), nx cod_X7_countAll cut_X7_countAll K (n + 1) 90 L st S = (O_istore 4 2) (nx cod_X7_countAll cut_X7_countAll K n) 90 L st S) ∧
  (∀ (K : Kt QT) (n : Nat) (L : xL) (st : List Value) (S : QT), nx cod_X7_countAll cut_X7_countAll K (n + 1) 92 L st S = K 92 L st S) ∧
  (∀ (K : Kt QT) (n : Nat) (L : xL) (st : List Value) (S : QT), nx1 cod_X7_countAll cut_X7_countAll K n 92 L st S = (O_aload 0 1) (nx cod_X7_countAll cut_X7_countAll K n) 92 L st S) ∧
  (∀ (K : Kt QT) (n : Nat) (L : xL) (st : List Value) (S : QT), nx cod_X7_countAll cut_X7_countAll K (n + 1) 93 L st S = (O_int 10 2) (nx cod_X7_countAll cut_X7_countAll K n) 93 L st S) ∧
  (∀ (K : Kt QT) (n : Nat) (L : xL) (st : List Value) (S : QT), nx cod_X7_countAll cut_X7_countAll K (n + 1) 95 L st S = (O_iload 1 1) (nx cod_X7_countAll cut_X7_countAll K n) 95 L st S) ∧
  (∀ (K : Kt QT) (n : Nat) (L : xL) (st : List Value) (S : QT), nx cod_X7_countAll cut_X7_countAll K (n + 1) 96 L st S = (O_if_eq 127) (nx cod_X7_countAll cut_X7_countAll K n) 96 L st S) ∧
  (∀ (K : Kt QT) (n : Nat) (L : xL) (st : List Value) (S : QT), nx cod_X7_countAll cut_X7_countAll K (n + 1) 99 L st S = (O_iload 2 1) (nx cod_X7_countAll cut_X7_countAll K n) 99 L st S) ∧
  (∀ (K : Kt QT) (n : Nat) (L : xL) (st : List Value) (S : QT), nx cod_X7_countAll cut_X7_countAll K (n + 1) 100 L st S = (O_if_eq 127) (nx cod_X7_countAll cut_X7_countAll K n) 100 L st S) ∧
  (∀ (K : Kt QT) (n : Nat) (L : xL) (st : List Value) (S : QT), nx cod_X7_countAll cut_X7_countAll K (n + 1) 103 L st S = (O_aload 0 1) (nx cod_X7_countAll cut_X7_countAll K n) 103 L st S) ∧
  (∀ (K : Kt QT) (n : Nat) (L : xL) (st : List Value) (S : QT), nx cod_X7_countAll cut_X7_countAll K (n + 1) 104 L st S = (O_getf aW 7 0) (nx cod_X7_countAll cut_X7_countAll K n) 104 L st S) ∧
  (∀ (K : Kt QT) (n : Nat) (L : xL) (st : List Value) (S : QT), nx cod_X7_countAll cut_X7_countAll K (n + 1) 107 L st S = (O_int 1 1) (nx cod_X7_countAll cut_X7_countAll K n) 107 L st S) ∧
  (∀ (K : Kt QT) (n : Nat) (L : xL) (st : List Value) (S : QT), nx cod_X7_countAll cut_X7_countAll K (n + 1) 108 L st S = (O_ald aW 0) (nx cod_X7_countAll cut_X7_countAll K n) 108 L st S) ∧
  (∀ (K : Kt QT) (n : Nat) (L : xL) (st : List Value) (S : QT), nx cod_X7_countAll cut_X7_countAll K (n + 1) 109 L st S = (O_aload 0 1) (nx cod_X7_countAll cut_X7_countAll K n) 109 L st S) ∧
  (∀ (K : Kt QT) (n : Nat) (L : xL) (st : List Value) (S : QT), nx cod_X7_countAll cut_X7_countAll K (n + 1) 110 L st S = (O_int 0 1) (nx cod_X7_countAll cut_X7_countAll K n) 110 L st S) ∧
  (∀ (K : Kt QT) (n : Nat) (L : xL) (st : List Value) (S : QT), nx cod_X7_countAll cut_X7_countAll K (n + 1) 111 L st S = (O_callV 1 0 (fun S => S) (fun _ S' => S') sp_X7_setting) (nx cod_X7_countAll cut_X7_countAll K n) 111 L st S) ∧
  (∀ (K : Kt QT) (n : Nat) (L : xL) (st : List Value) (S : QT), nx cod_X7_countAll cut_X7_countAll K (n + 1) 114 L st S = (O_aload 0 1) (nx cod_X7_countAll cut_X7_countAll K n) 114 L st S) ∧
  (∀ (K : Kt QT) (n : Nat) (L : xL) (st : List Value) (S : QT), nx cod_X7_countAll cut_X7_countAll K (n + 1) 115 L st S = (O_int 1 1) (nx cod_X7_countAll cut_X7_countAll K n) 115 L st S) ∧
  (∀ (K : Kt QT) (n : Nat) (L : xL) (st : List Value) (S : QT), nx cod_X7_countAll cut_X7_countAll K (n + 1) 116 L st S = (O_callV 1 0 (fun S => S) (fun _ S' => S') sp_X7_setting) (nx cod_X7_countAll cut_X7_countAll K n) 116 L st S) ∧
  (∀ (K : Kt QT) (n : Nat) (L : xL) (st : List Value) (S : QT), nx cod_X7_countAll cut_X7_countAll K (n + 1) 119 L st S = (O_isub) (nx cod_X7_countAll cut_X7_countAll K n) 119 L st S) ∧
  (∀ (K : Kt QT) (n : Nat) (L : xL) (st : List Value) (S : QT), nx cod_X7_countAll cut_X7_countAll K (n + 1) 120 L st S = (O_icmp_ge 127) (nx cod_X7_countAll cut_X7_countAll K n) 120 L st S) ∧
  (∀ (K : Kt QT) (n : Nat) (L : xL) (st : List Value) (S : QT), nx cod_X7_countAll cut_X7_countAll K (n + 1) 123 L st S = (O_int 1 1) (nx cod_X7_countAll cut_X7_countAll K n) 123 L st S) ∧
  (∀ (K : Kt QT) (n : Nat) (L : xL) (st : List Value) (S : QT), nx cod_X7_countAll cut_X7_countAll K (n + 1) 124 L st S = (O_goto 128) (nx cod_X7_countAll cut_X7_countAll K n) 124 L st S) ∧
  (∀ (K : Kt QT) (n : Nat) (L : xL) (st : List Value) (S : QT), nx cod_X7_countAll cut_X7_countAll K (n + 1) 127 L st S = (O_int 0 1) (nx cod_X7_countAll cut_X7_countAll K n) 127 L st S) ∧
  (∀ (K : Kt QT) (n : Nat) (L : xL) (st : List Value) (S : QT), nx cod_X7_countAll cut_X7_countAll K (n + 1) 128 L st S = (O_callV 2 0 (fun S => S) (fun _ S' => S') sp_X7_counts) (nx cod_X7_countAll cut_X7_countAll K n) 128 L st S) ∧
  (∀ (K : Kt QT) (n : Nat) (L : xL) (st : List Value) (S : QT), nx cod_X7_countAll cut_X7_countAll K (n + 1) 131 L st S = K 131 L st S) ∧
  (∀ (K : Kt QT) (n : Nat) (L : xL) (st : List Value) (S : QT), nx1 cod_X7_countAll cut_X7_countAll K n 131 L st S = (O_aload 0 1) (nx cod_X7_countAll cut_X7_countAll K n) 131 L st S) ∧
  (∀ (K : Kt QT) (n : Nat) (L : xL) (st : List Value) (S : QT), nx cod_X7_countAll cut_X7_countAll K (n + 1) 132 L st S = (O_int 11 2) (nx cod_X7_countAll cut_X7_countAll K n) 132 L st S) ∧
  (∀ (K : Kt QT) (n : Nat) (L : xL) (st : List Value) (S : QT), nx cod_X7_countAll cut_X7_countAll K (n + 1) 134 L st S = (O_iload 1 1) (nx cod_X7_countAll cut_X7_countAll K n) 134 L st S) ∧
  (∀ (K : Kt QT) (n : Nat) (L : xL) (st : List Value) (S : QT), nx cod_X7_countAll cut_X7_countAll K (n + 1) 135 L st S = (O_if_eq 166) (nx cod_X7_countAll cut_X7_countAll K n) 135 L st S) ∧
  (∀ (K : Kt QT) (n : Nat) (L : xL) (st : List Value) (S : QT), nx cod_X7_countAll cut_X7_countAll K (n + 1) 138 L st S = (O_iload 3 1) (nx cod_X7_countAll cut_X7_countAll K n) 138 L st S) ∧
  (∀ (K : Kt QT) (n : Nat) (L : xL) (st : List Value) (S : QT), nx cod_X7_countAll cut_X7_countAll K (n + 1) 139 L st S = (O_if_eq 166) (nx cod_X7_countAll cut_X7_countAll K n) 139 L st S) ∧
  (∀ (K : Kt QT) (n : Nat) (L : xL) (st : List Value) (S : QT), nx cod_X7_countAll cut_X7_countAll K (n + 1) 142 L st S = (O_aload 0 1) (nx cod_X7_countAll cut_X7_countAll K n) 142 L st S) ∧
  (∀ (K : Kt QT) (n : Nat) (L : xL) (st : List Value) (S : QT), nx cod_X7_countAll cut_X7_countAll K (n + 1) 143 L st S = (O_getf aW 7 0) (nx cod_X7_countAll cut_X7_countAll K n) 143 L st S) ∧
  (∀ (K : Kt QT) (n : Nat) (L : xL) (st : List Value) (S : QT), nx cod_X7_countAll cut_X7_countAll K (n + 1) 146 L st S = (O_int 1 1) (nx cod_X7_countAll cut_X7_countAll K n) 146 L st S) ∧
  (∀ (K : Kt QT) (n : Nat) (L : xL) (st : List Value) (S : QT), nx cod_X7_countAll cut_X7_countAll K (n + 1) 147 L st S = (O_ald aW 0) (nx cod_X7_countAll cut_X7_countAll K n) 147 L st S) ∧
  (∀ (K : Kt QT) (n : Nat) (L : xL) (st : List Value) (S : QT), nx cod_X7_countAll cut_X7_countAll K (n + 1) 148 L st S = (O_aload 0 1) (nx cod_X7_countAll cut_X7_countAll K n) 148 L st S) ∧
  (∀ (K : Kt QT) (n : Nat) (L : xL) (st : List Value) (S : QT), nx cod_X7_countAll cut_X7_countAll K (n + 1) 149 L st S = (O_int 0 1) (nx cod_X7_countAll cut_X7_countAll K n) 149 L st S) ∧
  (∀ (K : Kt QT) (n : Nat) (L : xL) (st : List Value) (S : QT), nx cod_X7_countAll cut_X7_countAll K (n + 1) 150 L st S = (O_callV 1 0 (fun S => S) (fun _ S' => S') sp_X7_setting) (nx cod_X7_countAll cut_X7_countAll K n) 150 L st S) ∧
  (∀ (K : Kt QT) (n : Nat) (L : xL) (st : List Value) (S : QT), nx cod_X7_countAll cut_X7_countAll K (n + 1) 153 L st S = (O_aload 0 1) (nx cod_X7_countAll cut_X7_countAll K n) 153 L st S) ∧
  (∀ (K : Kt QT) (n : Nat) (L : xL) (st : List Value) (S : QT), nx cod_X7_countAll cut_X7_countAll K (n + 1) 154 L st S = (O_int 1 1) (nx cod_X7_countAll cut_X7_countAll K n) 154 L st S) ∧
  (∀ (K : Kt QT) (n : Nat) (L : xL) (st : List Value) (S : QT), nx cod_X7_countAll cut_X7_countAll K (n + 1) 155 L st S = (O_callV 1 0 (fun S => S) (fun _ S' => S') sp_X7_setting) (nx cod_X7_countAll cut_X7_countAll K n) 155 L st S) ∧
  (∀ (K : Kt QT) (n : Nat) (L : xL) (st : List Value) (S : QT), nx cod_X7_countAll cut_X7_countAll K (n + 1) 158 L st S = (O_iadd) (nx cod_X7_countAll cut_X7_countAll K n) 158 L st S) ∧
  (∀ (K : Kt QT) (n : Nat) (L : xL) (st : List Value) (S : QT), nx cod_X7_countAll cut_X7_countAll K (n + 1) 159 L st S = (O_icmp_le 166) (nx cod_X7_countAll cut_X7_countAll K n) 159 L st S) ∧
  (∀ (K : Kt QT) (n : Nat) (L : xL) (st : List Value) (S : QT), nx cod_X7_countAll cut_X7_countAll K (n + 1) 162 L st S = (O_int 1 1) (nx cod_X7_countAll cut_X7_countAll K n) 162 L st S) ∧
  (∀ (K : Kt QT) (n : Nat) (L : xL) (st : List Value) (S : QT), nx cod_X7_countAll cut_X7_countAll K (n + 1) 163 L st S = (O_goto 167) (nx cod_X7_countAll cut_X7_countAll K n) 163 L st S) ∧
  (∀ (K : Kt QT) (n : Nat) (L : xL) (st : List Value) (S : QT), nx cod_X7_countAll cut_X7_countAll K (n + 1) 166 L st S = (O_int 0 1) (nx cod_X7_countAll cut_X7_countAll K n) 166 L st S) ∧
  (∀ (K : Kt QT) (n : Nat) (L : xL) (st : List Value) (S : QT), nx cod_X7_countAll cut_X7_countAll K (n + 1) 167 L st S = (O_callV 2 0 (fun S => S) (fun _ S' => S') sp_X7_counts) (nx cod_X7_countAll cut_X7_countAll K n) 167 L st S) ∧
  (∀ (K : Kt QT) (n : Nat) (L : xL) (st : List Value) (S : QT), nx cod_X7_countAll cut_X7_countAll K (n + 1) 170 L st S = K 170 L st S) ∧
  (∀ (K : Kt QT) (n : Nat) (L : xL) (st : List Value) (S : QT), nx1 cod_X7_countAll cut_X7_countAll K n 170 L st S = (O_aload 0 1) (nx cod_X7_countAll cut_X7_countAll K n) 170 L st S) ∧
  (∀ (K : Kt QT) (n : Nat) (L : xL) (st : List Value) (S : QT), nx cod_X7_countAll cut_X7_countAll K (n + 1) 171 L st S = (O_int 12 2) (nx cod_X7_countAll cut_X7_countAll K n) 171 L st S) ∧
  (∀ (K : Kt QT) (n : Nat) (L : xL) (st : List Value) (S : QT), nx cod_X7_countAll cut_X7_countAll K (n + 1) 173 L st S = (O_iload 4 2) (nx cod_X7_countAll cut_X7_countAll K n) 173 L st S) ∧
  (∀ (K : Kt QT) (n : Nat) (L : xL) (st : List Value) (S : QT), nx cod_X7_countAll cut_X7_countAll K (n + 1) 175 L st S = (O_if_eq 201) (nx cod_X7_countAll cut_X7_countAll K n) 175 L st S) ∧
  (∀ (K : Kt QT) (n : Nat) (L : xL) (st : List Value) (S : QT), nx cod_X7_countAll cut_X7_countAll K (n + 1) 178 L st S = (O_iload 3 1) (nx cod_X7_countAll cut_X7_countAll K n) 178 L st S) ∧
  (∀ (K : Kt QT) (n : Nat) (L : xL) (st : List Value) (S : QT), nx cod_X7_countAll cut_X7_countAll K (n + 1) 179 L st S = (O_if_eq 201) (nx cod_X7_countAll cut_X7_countAll K n) 179 L st S) ∧
  (∀ (K : Kt QT) (n : Nat) (L : xL) (st : List Value) (S : QT), nx cod_X7_countAll cut_X7_countAll K (n + 1) 182 L st S = (O_aload 0 1) (nx cod_X7_countAll cut_X7_countAll K n) 182 L st S) ∧
  (∀ (K : Kt QT) (n : Nat) (L : xL) (st : List Value) (S : QT), nx cod_X7_countAll cut_X7_countAll K (n + 1) 183 L st S = (O_getf aW 7 0) (nx cod_X7_countAll cut_X7_countAll K n) 183 L st S) ∧
  (∀ (K : Kt QT) (n : Nat) (L : xL) (st : List Value) (S : QT), nx cod_X7_countAll cut_X7_countAll K (n + 1) 186 L st S = (O_int 3 1) (nx cod_X7_countAll cut_X7_countAll K n) 186 L st S) ∧
  (∀ (K : Kt QT) (n : Nat) (L : xL) (st : List Value) (S : QT), nx cod_X7_countAll cut_X7_countAll K (n + 1) 187 L st S = (O_ald aW 0) (nx cod_X7_countAll cut_X7_countAll K n) 187 L st S) ∧
  (∀ (K : Kt QT) (n : Nat) (L : xL) (st : List Value) (S : QT), nx cod_X7_countAll cut_X7_countAll K (n + 1) 188 L st S = (O_aload 0 1) (nx cod_X7_countAll cut_X7_countAll K n) 188 L st S) ∧
  (∀ (K : Kt QT) (n : Nat) (L : xL) (st : List Value) (S : QT), nx cod_X7_countAll cut_X7_countAll K (n + 1) 189 L st S = (O_int 7 2) (nx cod_X7_countAll cut_X7_countAll K n) 189 L st S) ∧
  (∀ (K : Kt QT) (n : Nat) (L : xL) (st : List Value) (S : QT), nx cod_X7_countAll cut_X7_countAll K (n + 1) 191 L st S = (O_callV 1 0 (fun S => S) (fun _ S' => S') sp_X7_setting) (nx cod_X7_countAll cut_X7_countAll K n) 191 L st S) ∧
  (∀ (K : Kt QT) (n : Nat) (L : xL) (st : List Value) (S : QT), nx cod_X7_countAll cut_X7_countAll K (n + 1) 194 L st S = (O_icmp_ge 201) (nx cod_X7_countAll cut_X7_countAll K n) 194 L st S) ∧
  (∀ (K : Kt QT) (n : Nat) (L : xL) (st : List Value) (S : QT), nx cod_X7_countAll cut_X7_countAll K (n + 1) 197 L st S = (O_int 1 1) (nx cod_X7_countAll cut_X7_countAll K n) 197 L st S) ∧
  (∀ (K : Kt QT) (n : Nat) (L : xL) (st : List Value) (S : QT), nx cod_X7_countAll cut_X7_countAll K (n + 1) 198 L st S = (O_goto 202) (nx cod_X7_countAll cut_X7_countAll K n) 198 L st S) ∧
  (∀ (K : Kt QT) (n : Nat) (L : xL) (st : List Value) (S : QT), nx cod_X7_countAll cut_X7_countAll K (n + 1) 201 L st S = (O_int 0 1) (nx cod_X7_countAll cut_X7_countAll K n) 201 L st S) ∧
  (∀ (K : Kt QT) (n : Nat) (L : xL) (st : List Value) (S : QT), nx cod_X7_countAll cut_X7_countAll K (n + 1) 202 L st S = (O_callV 2 0 (fun S => S) (fun _ S' => S') sp_X7_counts) (nx cod_X7_countAll cut_X7_countAll K n) 202 L st S) ∧
  (∀ (K : Kt QT) (n : Nat) (L : xL) (st : List Value) (S : QT), nx cod_X7_countAll cut_X7_countAll K (n + 1) 205 L st S = (O_vret) (nx cod_X7_countAll cut_X7_countAll K n) 205 L st S) ∧
  (∀ (K : Kt QT) (n : Nat) (L : xL) (st : List Value) (S : QT), nx cod_X7_countAll cut_X7_countAll K (n + 1) 100000 L st S = K 100000 L st S) := by
  repeat' apply And.intro
  all_goals (intros; rfl)
set_option maxRecDepth 100000 in
theorem mk_X7_countAll {P P' : QT} {r : Option Value}  (body : ∀ E : En, CodOk E aW cod_X7_countAll → Gd E aW 100000 [] r.toList P' → Gd E aW 0 [some (.ref 0), none, none, none, none] [] P) : Con yX7_countAll cX7_countAll 5 none 3 aW [.ref 0] P r P' :=
  Con.of (by decide) ((aW_len P').trans (aW_len P).symm) rfl (Nat.le_of_ble_eq_true rfl) (fun E F G hr => body E (okc_X7_countAll F G) hr)
set_option maxRecDepth 10000 in
theorem con_X7_countAll (S : ST) (M : MT) (fl : Bool)  (hp : S.P.inv) : Con yX7_countAll cX7_countAll 5 none 3 aW [.ref 0] (S, M, fl) (none) ((S.cnt, M, fl)) := by
  refine mk_X7_countAll (fun E C hr => ?_)
  obtain ⟨g1, g2, g3⟩ := cnt_facts hp
  have ho := hp.1
  have hvb : ¬ S.P.vrb = -1 → vp_in S.P.vrb 6 := fun c => by
    rcases hp.2.2.2 with q | ⟨w, w1, w2, _, _⟩
    · exact absurd q c
    · rw [w2]; exact (ixs hp.1 w1).1
  have he : S.cnt = ((S.sToStart (if S.gStart = true then S.toStart + 1 else 0)).sToStop (if S.gStop = true then S.toStop + 1 else 0)).sToSleep (if S.gSleep = true then S.toSleep + 1 else 0) := rfl
  rw [he, g1, g2, g3] at hr
  clear he g1 g2 g3 hp
  generalize hb1 : decide (0 < S.P.running) = b1 at *
  generalize hb2 : decide (S.P.vrb = -1 ∨ S.P.speeds S.P.vrb.toNatClampNeg = 1000) = b2 at *
  generalize hb3 : decide (S.P.vrb = -1 ∨ S.P.speeds S.P.vrb.toNatClampNeg = S.settings 4) = b3 at *
  generalize hb4 : decide (S.P.running = 1 ∧ ¬ S.P.vrb = -1) = b4 at *
  have h170 : Gd E aW 170 [some (.ref 0), some (.int (bI b1)), some (.int (bI b2)), some (.int (bI b3)), some (.int (bI b4))] [] ((S.sToStart (if (b1 && (b2 && decide (S.pressure < S.settings 0 - S.settings 1))) = true then S.toStart + 1 else 0)).sToStop (if (b1 && (b3 && decide (S.settings 0 + S.settings 1 < S.pressure))) = true then S.toStop + 1 else 0), M, fl) := by
    clear hb1 hb2 hb3 hb4
    by_cases c : S.supply < S.settings 7
    · cases b4 <;> cases b3 <;> simp only [c, decide_true, Bool.and_true, Bool.and_false, Bool.false_and, Bool.true_and, Bool.and_self, if_true, if_false, reduceCtorEq] at hr <;> ((refine nx1_ok C cut_X7_countAll 1000 ?_; simp only [w_X7_countAll, ops_eq, xst_eq, call_eq, oK_eq, Option.toList_some, Option.toList_none, List.cons_append, List.nil_append, List.length_cons, List.length_nil, true_and, and_true, Nat.reduceAdd, aW_F, aW_A, aW_P, aW_w, abs_eq, O_asti_eq, v170, cl_eq, ST_id, MT_gs, ST_gs, PT_gs, ZT_gs, NT_gs, ET_gs, se_X7_running, se_X7_speedOfVariable, se_X7_setting, se_X7_counts, bI_eq, v19_eq, cset_eq, c]); ((repeat' (with_reducible first | apply And.intro | intro _)) <;> first | (with_reducible assumption) | (with_reducible exact Nat.zero_le _) | exact absurd trivial ‹¬True› | (simp_all [ST_id, MT_gs, ST_gs, PT_gs, ZT_gs, NT_gs, ET_gs]; done) | assumption | simp_all))
    · cases b4 <;> cases b3 <;> simp only [c, decide_false, Bool.and_true, Bool.and_false, Bool.false_and, Bool.true_and, Bool.and_self, if_true, if_false, reduceCtorEq] at hr <;> ((refine nx1_ok C cut_X7_countAll 1000 ?_; simp only [w_X7_countAll, ops_eq, xst_eq, call_eq, oK_eq, Option.toList_some, Option.toList_none, List.cons_append, List.nil_append, List.length_cons, List.length_nil, true_and, and_true, Nat.reduceAdd, aW_F, aW_A, aW_P, aW_w, abs_eq, O_asti_eq, v170, cl_eq, ST_id, MT_gs, ST_gs, PT_gs, ZT_gs, NT_gs, ET_gs, se_X7_running, se_X7_speedOfVariable, se_X7_setting, se_X7_counts, bI_eq, v19_eq, cset_eq, c]); ((repeat' (with_reducible first | apply And.intro | intro _)) <;> first | (with_reducible assumption) | (with_reducible exact Nat.zero_le _) | exact absurd trivial ‹¬True› | (simp_all [ST_id, MT_gs, ST_gs, PT_gs, ZT_gs, NT_gs, ET_gs]; done) | assumption | simp_all))
  clear hr
  have h131 : Gd E aW 131 [some (.ref 0), some (.int (bI b1)), some (.int (bI b2)), some (.int (bI b3)), some (.int (bI b4))] [] (S.sToStart (if (b1 && (b2 && decide (S.pressure < S.settings 0 - S.settings 1))) = true then S.toStart + 1 else 0), M, fl) := by
    clear hb1 hb2 hb3 hb4
    generalize (if (b1 && (b2 && decide (S.pressure < S.settings 0 - S.settings 1))) = true then S.toStart + 1 else 0) = x at *
    by_cases c : S.settings 0 + S.settings 1 < S.pressure
    · cases b1 <;> cases b3 <;> simp only [c, decide_true, Bool.and_true, Bool.and_false, Bool.false_and, Bool.true_and, Bool.and_self, if_true, if_false, reduceCtorEq] at h170 <;> ((refine nx1_ok C cut_X7_countAll 1000 ?_; simp only [w_X7_countAll, ops_eq, xst_eq, call_eq, oK_eq, Option.toList_some, Option.toList_none, List.cons_append, List.nil_append, List.length_cons, List.length_nil, true_and, and_true, Nat.reduceAdd, aW_F, aW_A, aW_P, aW_w, abs_eq, O_asti_eq, v170, cl_eq, ST_id, MT_gs, ST_gs, PT_gs, ZT_gs, NT_gs, ET_gs, se_X7_running, se_X7_speedOfVariable, se_X7_setting, se_X7_counts, bI_eq, v19_eq, cset_eq, c]); ((repeat' (with_reducible first | apply And.intro | intro _)) <;> first | (with_reducible assumption) | (with_reducible exact Nat.zero_le _) | exact absurd trivial ‹¬True› | (simp_all [ST_id, MT_gs, ST_gs, PT_gs, ZT_gs, NT_gs, ET_gs]; done) | assumption | simp_all))
    · cases b1 <;> cases b3 <;> simp only [c, decide_false, Bool.and_true, Bool.and_false, Bool.false_and, Bool.true_and, Bool.and_self, if_true, if_false, reduceCtorEq] at h170 <;> ((refine nx1_ok C cut_X7_countAll 1000 ?_; simp only [w_X7_countAll, ops_eq, xst_eq, call_eq, oK_eq, Option.toList_some, Option.toList_none, List.cons_append, List.nil_append, List.length_cons, List.length_nil, true_and, and_true, Nat.reduceAdd, aW_F, aW_A, aW_P, aW_w, abs_eq, O_asti_eq, v170, cl_eq, ST_id, MT_gs, ST_gs, PT_gs, ZT_gs, NT_gs, ET_gs, se_X7_running, se_X7_speedOfVariable, se_X7_setting, se_X7_counts, bI_eq, v19_eq, cset_eq, c]); ((repeat' (with_reducible first | apply And.intro | intro _)) <;> first | (with_reducible assumption) | (with_reducible exact Nat.zero_le _) | exact absurd trivial ‹¬True› | (simp_all [ST_id, MT_gs, ST_gs, PT_gs, ZT_gs, NT_gs, ET_gs]; done) | assumption | simp_all))
  clear h170
  have h92 : Gd E aW 92 [some (.ref 0), some (.int (bI b1)), some (.int (bI b2)), some (.int (bI b3)), some (.int (bI b4))] [] (S, M, fl) := by
    clear hb1 hb2 hb3 hb4
    by_cases c : S.pressure < S.settings 0 - S.settings 1
    · cases b1 <;> cases b2 <;> simp only [c, decide_true, Bool.and_true, Bool.and_false, Bool.false_and, Bool.true_and, Bool.and_self, if_true, if_false, reduceCtorEq] at h131 <;> ((refine nx1_ok C cut_X7_countAll 1000 ?_; simp only [w_X7_countAll, ops_eq, xst_eq, call_eq, oK_eq, Option.toList_some, Option.toList_none, List.cons_append, List.nil_append, List.length_cons, List.length_nil, true_and, and_true, Nat.reduceAdd, aW_F, aW_A, aW_P, aW_w, abs_eq, O_asti_eq, v170, cl_eq, ST_id, MT_gs, ST_gs, PT_gs, ZT_gs, NT_gs, ET_gs, se_X7_running, se_X7_speedOfVariable, se_X7_setting, se_X7_counts, bI_eq, v19_eq, cset_eq, c]); ((repeat' (with_reducible first | apply And.intro | intro _)) <;> first | (with_reducible assumption) | (with_reducible exact Nat.zero_le _) | exact absurd trivial ‹¬True› | (simp_all [ST_id, MT_gs, ST_gs, PT_gs, ZT_gs, NT_gs, ET_gs]; done) | assumption | simp_all))
    · cases b1 <;> cases b2 <;> simp only [c, decide_false, Bool.and_true, Bool.and_false, Bool.false_and, Bool.true_and, Bool.and_self, if_true, if_false, reduceCtorEq] at h131 <;> ((refine nx1_ok C cut_X7_countAll 1000 ?_; simp only [w_X7_countAll, ops_eq, xst_eq, call_eq, oK_eq, Option.toList_some, Option.toList_none, List.cons_append, List.nil_append, List.length_cons, List.length_nil, true_and, and_true, Nat.reduceAdd, aW_F, aW_A, aW_P, aW_w, abs_eq, O_asti_eq, v170, cl_eq, ST_id, MT_gs, ST_gs, PT_gs, ZT_gs, NT_gs, ET_gs, se_X7_running, se_X7_speedOfVariable, se_X7_setting, se_X7_counts, bI_eq, v19_eq, cset_eq, c]); ((repeat' (with_reducible first | apply And.intro | intro _)) <;> first | (with_reducible assumption) | (with_reducible exact Nat.zero_le _) | exact absurd trivial ‹¬True› | (simp_all [ST_id, MT_gs, ST_gs, PT_gs, ZT_gs, NT_gs, ET_gs]; done) | assumption | simp_all))
  clear h131
  have h67 : Gd E aW 67 [some (.ref 0), some (.int (bI b1)), some (.int (bI b2)), some (.int (bI b3)), none] [] (S, M, fl) := by
    rw [← hb4] at h92
    clear hb1 hb2 hb3 hb4
    by_cases c1 : S.P.running = 1
    · by_cases c2 : S.P.vrb = -1
      · rw [decide_eq_false (fun z => z.2 c2), bI_eq.2.2.2.1] at h92
        (refine nx1_ok C cut_X7_countAll 1000 ?_; simp only [w_X7_countAll, ops_eq, xst_eq, call_eq, oK_eq, Option.toList_some, Option.toList_none, List.cons_append, List.nil_append, List.length_cons, List.length_nil, true_and, and_true, Nat.reduceAdd, aW_F, aW_A, aW_P, aW_w, abs_eq, O_asti_eq, v170, cl_eq, ST_id, MT_gs, ST_gs, PT_gs, ZT_gs, NT_gs, ET_gs, se_X7_running, se_X7_speedOfVariable, se_X7_setting, se_X7_counts, ho, c1, c2])
        ((repeat' (with_reducible first | apply And.intro | intro _)) <;> first | (with_reducible assumption) | (with_reducible exact Nat.zero_le _) | exact absurd trivial ‹¬True› | (simp_all [ST_id, MT_gs, ST_gs, PT_gs, ZT_gs, NT_gs, ET_gs]; done) | assumption | simp_all)
      · rw [decide_eq_true ⟨c1, c2⟩, bI_eq.2.2.1] at h92
        (refine nx1_ok C cut_X7_countAll 1000 ?_; simp only [w_X7_countAll, ops_eq, xst_eq, call_eq, oK_eq, Option.toList_some, Option.toList_none, List.cons_append, List.nil_append, List.length_cons, List.length_nil, true_and, and_true, Nat.reduceAdd, aW_F, aW_A, aW_P, aW_w, abs_eq, O_asti_eq, v170, cl_eq, ST_id, MT_gs, ST_gs, PT_gs, ZT_gs, NT_gs, ET_gs, se_X7_running, se_X7_speedOfVariable, se_X7_setting, se_X7_counts, ho, c1, c2])
        ((repeat' (with_reducible first | apply And.intro | intro _)) <;> first | (with_reducible assumption) | (with_reducible exact Nat.zero_le _) | exact absurd trivial ‹¬True› | (simp_all [ST_id, MT_gs, ST_gs, PT_gs, ZT_gs, NT_gs, ET_gs]; done) | assumption | simp_all)
    · rw [decide_eq_false (fun z => c1 z.1), bI_eq.2.2.2.1] at h92
      (refine nx1_ok C cut_X7_countAll 1000 ?_; simp only [w_X7_countAll, ops_eq, xst_eq, call_eq, oK_eq, Option.toList_some, Option.toList_none, List.cons_append, List.nil_append, List.length_cons, List.length_nil, true_and, and_true, Nat.reduceAdd, aW_F, aW_A, aW_P, aW_w, abs_eq, O_asti_eq, v170, cl_eq, ST_id, MT_gs, ST_gs, PT_gs, ZT_gs, NT_gs, ET_gs, se_X7_running, se_X7_speedOfVariable, se_X7_setting, se_X7_counts, ho, c1])
      ((repeat' (with_reducible first | apply And.intro | intro _)) <;> first | (with_reducible assumption) | (with_reducible exact Nat.zero_le _) | exact absurd trivial ‹¬True› | (simp_all [ST_id, MT_gs, ST_gs, PT_gs, ZT_gs, NT_gs, ET_gs]; done) | assumption | simp_all)
  clear h92
  have h39 : Gd E aW 39 [some (.ref 0), some (.int (bI b1)), some (.int (bI b2)), none, none] [] (S, M, fl) := by
    rw [← hb3] at h67
    clear hb1 hb2 hb3 hb4
    by_cases c2 : S.P.vrb = -1
    · rw [decide_eq_true (Or.inl c2), bI_eq.2.2.1] at h67
      (refine nx1_ok C cut_X7_countAll 1000 ?_; simp only [w_X7_countAll, ops_eq, xst_eq, call_eq, oK_eq, Option.toList_some, Option.toList_none, List.cons_append, List.nil_append, List.length_cons, List.length_nil, true_and, and_true, Nat.reduceAdd, aW_F, aW_A, aW_P, aW_w, abs_eq, O_asti_eq, v170, cl_eq, ST_id, MT_gs, ST_gs, PT_gs, ZT_gs, NT_gs, ET_gs, se_X7_running, se_X7_speedOfVariable, se_X7_setting, se_X7_counts, c2])
      ((repeat' (with_reducible first | apply And.intro | intro _)) <;> first | (with_reducible assumption) | (with_reducible exact Nat.zero_le _) | exact absurd trivial ‹¬True› | (simp_all [ST_id, MT_gs, ST_gs, PT_gs, ZT_gs, NT_gs, ET_gs]; done) | assumption | simp_all)
    · have hv := hvb c2
      by_cases c1 : S.P.speeds S.P.vrb.toNatClampNeg = S.settings 4
      · rw [decide_eq_true (Or.inr c1), bI_eq.2.2.1] at h67
        (refine nx1_ok C cut_X7_countAll 1000 ?_; simp only [w_X7_countAll, ops_eq, xst_eq, call_eq, oK_eq, Option.toList_some, Option.toList_none, List.cons_append, List.nil_append, List.length_cons, List.length_nil, true_and, and_true, Nat.reduceAdd, aW_F, aW_A, aW_P, aW_w, abs_eq, O_asti_eq, v170, cl_eq, ST_id, MT_gs, ST_gs, PT_gs, ZT_gs, NT_gs, ET_gs, se_X7_running, se_X7_speedOfVariable, se_X7_setting, se_X7_counts, hv, v19_eq, c1, c2])
        ((repeat' (with_reducible first | apply And.intro | intro _)) <;> first | (with_reducible assumption) | (with_reducible exact Nat.zero_le _) | exact absurd trivial ‹¬True› | (simp_all [ST_id, MT_gs, ST_gs, PT_gs, ZT_gs, NT_gs, ET_gs]; done) | assumption | simp_all)
      · rw [decide_eq_false (fun z => z.elim c2 c1), bI_eq.2.2.2.1] at h67
        (refine nx1_ok C cut_X7_countAll 1000 ?_; simp only [w_X7_countAll, ops_eq, xst_eq, call_eq, oK_eq, Option.toList_some, Option.toList_none, List.cons_append, List.nil_append, List.length_cons, List.length_nil, true_and, and_true, Nat.reduceAdd, aW_F, aW_A, aW_P, aW_w, abs_eq, O_asti_eq, v170, cl_eq, ST_id, MT_gs, ST_gs, PT_gs, ZT_gs, NT_gs, ET_gs, se_X7_running, se_X7_speedOfVariable, se_X7_setting, se_X7_counts, hv, v19_eq, c1, c2])
        ((repeat' (with_reducible first | apply And.intro | intro _)) <;> first | (with_reducible assumption) | (with_reducible exact Nat.zero_le _) | exact absurd trivial ‹¬True› | (simp_all [ST_id, MT_gs, ST_gs, PT_gs, ZT_gs, NT_gs, ET_gs]; done) | assumption | simp_all)
  clear h67
  have h13 : Gd E aW 13 [some (.ref 0), some (.int (bI b1)), none, none, none] [] (S, M, fl) := by
    rw [← hb2] at h39
    clear hb1 hb2 hb3 hb4
    by_cases c2 : S.P.vrb = -1
    · rw [decide_eq_true (Or.inl c2), bI_eq.2.2.1] at h39
      (refine nx1_ok C cut_X7_countAll 1000 ?_; simp only [w_X7_countAll, ops_eq, xst_eq, call_eq, oK_eq, Option.toList_some, Option.toList_none, List.cons_append, List.nil_append, List.length_cons, List.length_nil, true_and, and_true, Nat.reduceAdd, aW_F, aW_A, aW_P, aW_w, abs_eq, O_asti_eq, v170, cl_eq, ST_id, MT_gs, ST_gs, PT_gs, ZT_gs, NT_gs, ET_gs, se_X7_running, se_X7_speedOfVariable, se_X7_setting, se_X7_counts, c2])
      ((repeat' (with_reducible first | apply And.intro | intro _)) <;> first | (with_reducible assumption) | (with_reducible exact Nat.zero_le _) | exact absurd trivial ‹¬True› | (simp_all [ST_id, MT_gs, ST_gs, PT_gs, ZT_gs, NT_gs, ET_gs]; done) | assumption | simp_all)
    · have hv := hvb c2
      by_cases c1 : S.P.speeds S.P.vrb.toNatClampNeg = 1000
      · rw [decide_eq_true (Or.inr c1), bI_eq.2.2.1] at h39
        (refine nx1_ok C cut_X7_countAll 1000 ?_; simp only [w_X7_countAll, ops_eq, xst_eq, call_eq, oK_eq, Option.toList_some, Option.toList_none, List.cons_append, List.nil_append, List.length_cons, List.length_nil, true_and, and_true, Nat.reduceAdd, aW_F, aW_A, aW_P, aW_w, abs_eq, O_asti_eq, v170, cl_eq, ST_id, MT_gs, ST_gs, PT_gs, ZT_gs, NT_gs, ET_gs, se_X7_running, se_X7_speedOfVariable, se_X7_setting, se_X7_counts, hv, v19_eq, c1, c2])
        ((repeat' (with_reducible first | apply And.intro | intro _)) <;> first | (with_reducible assumption) | (with_reducible exact Nat.zero_le _) | exact absurd trivial ‹¬True› | (simp_all [ST_id, MT_gs, ST_gs, PT_gs, ZT_gs, NT_gs, ET_gs]; done) | assumption | simp_all)
      · rw [decide_eq_false (fun z => z.elim c2 c1), bI_eq.2.2.2.1] at h39
        (refine nx1_ok C cut_X7_countAll 1000 ?_; simp only [w_X7_countAll, ops_eq, xst_eq, call_eq, oK_eq, Option.toList_some, Option.toList_none, List.cons_append, List.nil_append, List.length_cons, List.length_nil, true_and, and_true, Nat.reduceAdd, aW_F, aW_A, aW_P, aW_w, abs_eq, O_asti_eq, v170, cl_eq, ST_id, MT_gs, ST_gs, PT_gs, ZT_gs, NT_gs, ET_gs, se_X7_running, se_X7_speedOfVariable, se_X7_setting, se_X7_counts, hv, v19_eq, c1, c2])
        ((repeat' (with_reducible first | apply And.intro | intro _)) <;> first | (with_reducible assumption) | (with_reducible exact Nat.zero_le _) | exact absurd trivial ‹¬True› | (simp_all [ST_id, MT_gs, ST_gs, PT_gs, ZT_gs, NT_gs, ET_gs]; done) | assumption | simp_all)
  clear h39
  rw [← hb1] at h13
  clear hb1 hb2 hb3 hb4
  by_cases c : 0 < S.P.running
  · rw [decide_eq_true c, bI_eq.2.2.1] at h13
    (refine nx_ok C (cuts := cut_X7_countAll) 1000 _ _ _ _ ?_; simp only [w_X7_countAll, ops_eq, xst_eq, call_eq, oK_eq, Option.toList_some, Option.toList_none, List.cons_append, List.nil_append, List.length_cons, List.length_nil, true_and, and_true, Nat.reduceAdd, aW_F, aW_A, aW_P, aW_w, abs_eq, O_asti_eq, v170, cl_eq, ST_id, MT_gs, ST_gs, PT_gs, ZT_gs, NT_gs, ET_gs, se_X7_running, se_X7_speedOfVariable, se_X7_setting, se_X7_counts, ho, c])
    ((repeat' (with_reducible first | apply And.intro | intro _)) <;> first | (with_reducible assumption) | (with_reducible exact Nat.zero_le _) | exact absurd trivial ‹¬True› | (simp_all [ST_id, MT_gs, ST_gs, PT_gs, ZT_gs, NT_gs, ET_gs]; done) | assumption | simp_all)
  · rw [decide_eq_false c, bI_eq.2.2.2.1] at h13
    (refine nx_ok C (cuts := cut_X7_countAll) 1000 _ _ _ _ ?_; simp only [w_X7_countAll, ops_eq, xst_eq, call_eq, oK_eq, Option.toList_some, Option.toList_none, List.cons_append, List.nil_append, List.length_cons, List.length_nil, true_and, and_true, Nat.reduceAdd, aW_F, aW_A, aW_P, aW_w, abs_eq, O_asti_eq, v170, cl_eq, ST_id, MT_gs, ST_gs, PT_gs, ZT_gs, NT_gs, ET_gs, se_X7_running, se_X7_speedOfVariable, se_X7_setting, se_X7_counts, ho, c])
    ((repeat' (with_reducible first | apply And.intro | intro _)) <;> first | (with_reducible assumption) | (with_reducible exact Nat.zero_le _) | exact absurd trivial ‹¬True› | (simp_all [ST_id, MT_gs, ST_gs, PT_gs, ZT_gs, NT_gs, ET_gs]; done) | assumption | simp_all)
def spc_X7_countAll (S : ST) (M : MT) (fl : Bool)  (K : Option Value → QT → Prop) : Prop := (S.P.inv) ∧ K (none) ((S.cnt, M, fl))
def sp_X7_countAll : Sp QT := fun av q K => match av with
  | [.ref 0] => spc_X7_countAll q.1 q.2.1 q.2.2  K
  | _ => False
theorem se_X7_countAll (S : ST) (M : MT) (fl : Bool)  (K : Option Value → QT → Prop) : sp_X7_countAll [.ref 0] (S, M, fl) K = ((S.P.inv) ∧ K (none) ((S.cnt, M, fl))) := rfl
theorem spok_X7_countAll : SpOk yX7_countAll cX7_countAll 5 none 3 aW sp_X7_countAll := by
  intro av q K h
  unfold sp_X7_countAll at h
  split at h
  · refine ⟨_, _, ?_, con_X7_countAll q.1 q.2.1 q.2.2  h.1, h.2⟩; trivial
  · exact h.elim
def cod_X7_longest : List (Nat × Op QT) := [(0, O_int (-1) 1), (1, O_istore 1 1), (2, O_int 0 1), (3, O_istore 2 1), (4, O_iload 2 1), (5, O_aload 0 1), (6, O_getf aW 7 0), (9, O_int 14 2), (11, O_ald aW 0), (12, O_icmp_ge 75), (15, O_aload 0 1), (16, O_iload 2 1), (17, O_callV 1 0 (fun S => S) (fun _ S' => S') sp_X7_runs), (20, O_if_eq 37), (23, O_iload 2 1), (24, O_aload 0 1), (25, O_getf aW 7 0), (28, O_int 4 1), (29, O_ald aW 0), (30, O_icmp_eq 37), (33, O_int 1 1), (34, O_goto 38), (37, O_int 0 1), (38, O_istore 3 1), (39, O_iload 3 1), (40, O_if_eq 67), (43, O_iload 1 1), (44, O_int (-1) 1), (45, O_icmp_eq 63), (48, O_aload 0 1), (49, O_iload 2 1), (50, O_int 5 1), (51, O_callV 2 0 (fun S => S) (fun _ S' => S') sp_X7_of), (54, O_aload 0 1), (55, O_iload 1 1), (56, O_int 5 1), (57, O_callV 2 0 (fun S => S) (fun _ S' => S') sp_X7_of), (60, O_icmp_le 67), (63, O_iload 2 1), (64, O_goto 68), (67, O_iload 1 1), (68, O_istore 1 1), (69, O_iinc 2 1), (72, O_goto 4), (75, O_iload 1 1), (76, O_iret)]
abbrev cut_X7_longest : List Nat := [4]
set_option maxRecDepth 100000 in
theorem okc_X7_longest {E : En} (F : Fx E RX7 cX7_longest 4 2) (G : Fr E (some .int)) : CodOk E aW cod_X7_longest := by
  unfold CodOk cod_X7_longest
  refine List.forall_mem_cons.mpr ⟨ok_iconst F dX7_longest_0 (by decide) (by decide), ?_⟩
  refine List.forall_mem_cons.mpr ⟨ok_istore_n F dX7_longest_1 rfl (by decide) (by decide), ?_⟩
  refine List.forall_mem_cons.mpr ⟨ok_iconst F dX7_longest_2 (by decide) (by decide), ?_⟩
  refine List.forall_mem_cons.mpr ⟨ok_istore_n F dX7_longest_3 rfl (by decide) (by decide), ?_⟩
  refine List.forall_mem_cons.mpr ⟨ok_iload_n F dX7_longest_4 rfl (by decide), ?_⟩
  refine List.forall_mem_cons.mpr ⟨ok_aload_n F dX7_longest_5 rfl (by decide), ?_⟩
  refine List.forall_mem_cons.mpr ⟨ok_getf F flX7_7 dX7_longest_6 (by decide), ?_⟩
  refine List.forall_mem_cons.mpr ⟨ok_bipush F dX7_longest_9 (by decide) (by decide), ?_⟩
  refine List.forall_mem_cons.mpr ⟨ok_iald F dX7_longest_11 (by decide), ?_⟩
  refine List.forall_mem_cons.mpr ⟨ok_icmp_ge F dX7_longest_12 (by decide) (by decide) (by decide), ?_⟩
  refine List.forall_mem_cons.mpr ⟨ok_aload_n F dX7_longest_15 rfl (by decide), ?_⟩
  refine List.forall_mem_cons.mpr ⟨ok_iload_n F dX7_longest_16 rfl (by decide), ?_⟩
  refine List.forall_mem_cons.mpr ⟨ok_callV F spok_X7_runs (ln_id aW) rcv_aW (by decide +kernel) (by decide) dX7_longest_17 (by decide), ?_⟩
  refine List.forall_mem_cons.mpr ⟨ok_if_eq F dX7_longest_20 (by decide) (by decide) (by decide), ?_⟩
  refine List.forall_mem_cons.mpr ⟨ok_iload_n F dX7_longest_23 rfl (by decide), ?_⟩
  refine List.forall_mem_cons.mpr ⟨ok_aload_n F dX7_longest_24 rfl (by decide), ?_⟩
  refine List.forall_mem_cons.mpr ⟨ok_getf F flX7_7 dX7_longest_25 (by decide), ?_⟩
  refine List.forall_mem_cons.mpr ⟨ok_iconst F dX7_longest_28 (by decide) (by decide), ?_⟩
  refine List.forall_mem_cons.mpr ⟨ok_iald F dX7_longest_29 (by decide), ?_⟩
  refine List.forall_mem_cons.mpr ⟨ok_icmp_eq F dX7_longest_30 (by decide) (by decide) (by decide), ?_⟩
  refine List.forall_mem_cons.mpr ⟨ok_iconst F dX7_longest_33 (by decide) (by decide), ?_⟩
  refine List.forall_mem_cons.mpr ⟨ok_goto F dX7_longest_34 (by decide) (by decide) (by decide), ?_⟩
  refine List.forall_mem_cons.mpr ⟨ok_iconst F dX7_longest_37 (by decide) (by decide), ?_⟩
  refine List.forall_mem_cons.mpr ⟨ok_istore_n F dX7_longest_38 rfl (by decide) (by decide), ?_⟩
  refine List.forall_mem_cons.mpr ⟨ok_iload_n F dX7_longest_39 rfl (by decide), ?_⟩
  refine List.forall_mem_cons.mpr ⟨ok_if_eq F dX7_longest_40 (by decide) (by decide) (by decide), ?_⟩
  refine List.forall_mem_cons.mpr ⟨ok_iload_n F dX7_longest_43 rfl (by decide), ?_⟩
  refine List.forall_mem_cons.mpr ⟨ok_iconst F dX7_longest_44 (by decide) (by decide), ?_⟩
  refine List.forall_mem_cons.mpr ⟨ok_icmp_eq F dX7_longest_45 (by decide) (by decide) (by decide), ?_⟩
  refine List.forall_mem_cons.mpr ⟨ok_aload_n F dX7_longest_48 rfl (by decide), ?_⟩
  refine List.forall_mem_cons.mpr ⟨ok_iload_n F dX7_longest_49 rfl (by decide), ?_⟩
  refine List.forall_mem_cons.mpr ⟨ok_iconst F dX7_longest_50 (by decide) (by decide), ?_⟩
  refine List.forall_mem_cons.mpr ⟨ok_callV F spok_X7_of (ln_id aW) rcv_aW (by decide +kernel) (by decide) dX7_longest_51 (by decide), ?_⟩
  refine List.forall_mem_cons.mpr ⟨ok_aload_n F dX7_longest_54 rfl (by decide), ?_⟩
  refine List.forall_mem_cons.mpr ⟨ok_iload_n F dX7_longest_55 rfl (by decide), ?_⟩
  refine List.forall_mem_cons.mpr ⟨ok_iconst F dX7_longest_56 (by decide) (by decide), ?_⟩
  refine List.forall_mem_cons.mpr ⟨ok_callV F spok_X7_of (ln_id aW) rcv_aW (by decide +kernel) (by decide) dX7_longest_57 (by decide), ?_⟩
  refine List.forall_mem_cons.mpr ⟨ok_icmp_le F dX7_longest_60 (by decide) (by decide) (by decide), ?_⟩
  refine List.forall_mem_cons.mpr ⟨ok_iload_n F dX7_longest_63 rfl (by decide), ?_⟩
  refine List.forall_mem_cons.mpr ⟨ok_goto F dX7_longest_64 (by decide) (by decide) (by decide), ?_⟩
  refine List.forall_mem_cons.mpr ⟨ok_iload_n F dX7_longest_67 rfl (by decide), ?_⟩
  refine List.forall_mem_cons.mpr ⟨ok_istore_n F dX7_longest_68 rfl (by decide) (by decide), ?_⟩
  refine List.forall_mem_cons.mpr ⟨ok_iinc F dX7_longest_69 (by decide) (by decide) (by decide), ?_⟩
  refine List.forall_mem_cons.mpr ⟨ok_goto F dX7_longest_72 (by decide) (by decide) (by decide), ?_⟩
  refine List.forall_mem_cons.mpr ⟨ok_iload_n F dX7_longest_75 rfl (by decide), ?_⟩
  refine List.forall_mem_cons.mpr ⟨ok_iret F G dX7_longest_76 (by decide), ?_⟩
  exact fun _ h => absurd h List.not_mem_nil
set_option maxRecDepth 100000 in
theorem w_X7_longest : (∀ (K : Kt QT) (n : Nat) (L : xL) (st : List Value) (S : QT), nx cod_X7_longest cut_X7_longest K (n + 1) 0 L st S = (O_int (-1) 1) (nx cod_X7_longest cut_X7_longest K n) 0 L st S) ∧
  (∀ (K : Kt QT) (n : Nat) (L : xL) (st : List Value) (S : QT), nx cod_X7_longest cut_X7_longest K (n + 1) 1 L st S = (O_istore 1 1) (nx cod_X7_longest cut_X7_longest K n) 1 L st S) ∧
  (∀ (K : Kt QT) (n : Nat) (L : xL) (st : List Value) (S : QT), nx cod_X7_longest cut_X7_longest K (n + 1) 2 L st S = (O_int 0 1) (nx cod_X7_longest cut_X7_longest K n) 2 L st S) ∧
  (∀ (K : Kt QT) (n : Nat) (L : xL) (st : List Value) (S : QT), nx cod_X7_longest cut_X7_longest K (n + 1) 3 L st S = (O_istore 2 1) (nx cod_X7_longest cut_X7_longest K n) 3 L st S) ∧
  (∀ (K : Kt QT) (n : Nat) (L : xL) (st : List Value) (S : QT), nx cod_X7_longest cut_X7_longest K (n + 1) 4 L st S = K 4 L st S) ∧
  (∀ (K : Kt QT) (n : Nat) (L : xL) (st : List Value) (S : QT), nx1 cod_X7_longest cut_X7_longest K n 4 L st S = (O_iload 2 1) (nx cod_X7_longest cut_X7_longest K n) 4 L st S) ∧
  (∀ (K : Kt QT) (n : Nat) (L : xL) (st : List Value) (S : QT), nx cod_X7_longest cut_X7_longest K (n + 1) 5 L st S = (O_aload 0 1) (nx cod_X7_longest cut_X7_longest K n) 5 L st S) ∧
  (∀ (K : Kt QT) (n : Nat) (L : xL) (st : List Value) (S : QT), nx cod_X7_longest cut_X7_longest K (n + 1) 6 L st S = (O_getf aW 7 0) (nx cod_X7_longest cut_X7_longest K n) 6 L st S) ∧
  (∀ (K : Kt QT) (n : Nat) (L : xL) (st : List Value) (S : QT), nx cod_X7_longest cut_X7_longest K (n + 1) 9 L st S = (O_int 14 2) (nx cod_X7_longest cut_X7_longest K n) 9 L st S) ∧
  (∀ (K : Kt QT) (n : Nat) (L : xL) (st : List Value) (S : QT), nx cod_X7_longest cut_X7_longest K (n + 1) 11 L st S = (O_ald aW 0) (nx cod_X7_longest cut_X7_longest K n) 11 L st S) ∧
  (∀ (K : Kt QT) (n : Nat) (L : xL) (st : List Value) (S : QT), nx cod_X7_longest cut_X7_longest K (n + 1) 12 L st S = (O_icmp_ge 75) (nx cod_X7_longest cut_X7_longest K n) 12 L st S) ∧
  (∀ (K : Kt QT) (n : Nat) (L : xL) (st : List Value) (S : QT), nx cod_X7_longest cut_X7_longest K (n + 1) 15 L st S = (O_aload 0 1) (nx cod_X7_longest cut_X7_longest K n) 15 L st S) ∧
  (∀ (K : Kt QT) (n : Nat) (L : xL) (st : List Value) (S : QT), nx cod_X7_longest cut_X7_longest K (n + 1) 16 L st S = (O_iload 2 1) (nx cod_X7_longest cut_X7_longest K n) 16 L st S) ∧
  (∀ (K : Kt QT) (n : Nat) (L : xL) (st : List Value) (S : QT), nx cod_X7_longest cut_X7_longest K (n + 1) 17 L st S = (O_callV 1 0 (fun S => S) (fun _ S' => S') sp_X7_runs) (nx cod_X7_longest cut_X7_longest K n) 17 L st S) ∧
  (∀ (K : Kt QT) (n : Nat) (L : xL) (st : List Value) (S : QT), nx cod_X7_longest cut_X7_longest K (n + 1) 20 L st S = (O_if_eq 37) (nx cod_X7_longest cut_X7_longest K n) 20 L st S) ∧
  (∀ (K : Kt QT) (n : Nat) (L : xL) (st : List Value) (S : QT), nx cod_X7_longest cut_X7_longest K (n + 1) 23 L st S = (O_iload 2 1) (nx cod_X7_longest cut_X7_longest K n) 23 L st S) ∧
  (∀ (K : Kt QT) (n : Nat) (L : xL) (st : List Value) (S : QT), nx cod_X7_longest cut_X7_longest K (n + 1) 24 L st S = (O_aload 0 1) (nx cod_X7_longest cut_X7_longest K n) 24 L st S) ∧
  (∀ (K : Kt QT) (n : Nat) (L : xL) (st : List Value) (S : QT), nx cod_X7_longest cut_X7_longest K (n + 1) 25 L st S = (O_getf aW 7 0) (nx cod_X7_longest cut_X7_longest K n) 25 L st S) ∧
  (∀ (K : Kt QT) (n : Nat) (L : xL) (st : List Value) (S : QT), nx cod_X7_longest cut_X7_longest K (n + 1) 28 L st S = (O_int 4 1) (nx cod_X7_longest cut_X7_longest K n) 28 L st S) ∧
  (∀ (K : Kt QT) (n : Nat) (L : xL) (st : List Value) (S : QT), nx cod_X7_longest cut_X7_longest K (n + 1) 29 L st S = (O_ald aW 0) (nx cod_X7_longest cut_X7_longest K n) 29 L st S) ∧
  (∀ (K : Kt QT) (n : Nat) (L : xL) (st : List Value) (S : QT), nx cod_X7_longest cut_X7_longest K (n + 1) 30 L st S = (O_icmp_eq 37) (nx cod_X7_longest cut_X7_longest K n) 30 L st S) ∧
  (∀ (K : Kt QT) (n : Nat) (L : xL) (st : List Value) (S : QT), nx cod_X7_longest cut_X7_longest K (n + 1) 33 L st S = (O_int 1 1) (nx cod_X7_longest cut_X7_longest K n) 33 L st S) ∧
  (∀ (K : Kt QT) (n : Nat) (L : xL) (st : List Value) (S : QT), nx cod_X7_longest cut_X7_longest K (n + 1) 34 L st S = (O_goto 38) (nx cod_X7_longest cut_X7_longest K n) 34 L st S) ∧
  (∀ (K : Kt QT) (n : Nat) (L : xL) (st : List Value) (S : QT), nx cod_X7_longest cut_X7_longest K (n + 1) 37 L st S = (O_int 0 1) (nx cod_X7_longest cut_X7_longest K n) 37 L st S) ∧
  (∀ (K : Kt QT) (n : Nat) (L : xL) (st : List Value) (S : QT), nx cod_X7_longest cut_X7_longest K (n + 1) 38 L st S = (O_istore 3 1) (nx cod_X7_longest cut_X7_longest K n) 38 L st S) ∧
  (∀ (K : Kt QT) (n : Nat) (L : xL) (st : List Value) (S : QT), nx cod_X7_longest cut_X7_longest K (n + 1) 39 L st S = (O_iload 3 1) (nx cod_X7_longest cut_X7_longest K n) 39 L st S) ∧
  (∀ (K : Kt QT) (n : Nat) (L : xL) (st : List Value) (S : QT), nx cod_X7_longest cut_X7_longest K (n + 1) 40 L st S = (O_if_eq 67) (nx cod_X7_longest cut_X7_longest K n) 40 L st S) ∧
  (∀ (K : Kt QT) (n : Nat) (L : xL) (st : List Value) (S : QT), nx cod_X7_longest cut_X7_longest K (n + 1) 43 L st S = (O_iload 1 1) (nx cod_X7_longest cut_X7_longest K n) 43 L st S) ∧
  (∀ (K : Kt QT) (n : Nat) (L : xL) (st : List Value) (S : QT), nx cod_X7_longest cut_X7_longest K (n + 1) 44 L st S = (O_int (-1) 1) (nx cod_X7_longest cut_X7_longest K n) 44 L st S) ∧
  (∀ (K : Kt QT) (n : Nat) (L : xL) (st : List Value) (S : QT), nx cod_X7_longest cut_X7_longest K (n + 1) 45 L st S = (O_icmp_eq 63) (nx cod_X7_longest cut_X7_longest K n) 45 L st S) ∧
  (∀ (K : Kt QT) (n : Nat) (L : xL) (st : List Value) (S : QT), nx cod_X7_longest cut_X7_longest K (n + 1) 48 L st S = (O_aload 0 1) (nx cod_X7_longest cut_X7_longest K n) 48 L st S) ∧
  (∀ (K : Kt QT) (n : Nat) (L : xL) (st : List Value) (S : QT), nx cod_X7_longest cut_X7_longest K (n + 1) 49 L st S = (O_iload 2 1) (nx cod_X7_longest cut_X7_longest K n) 49 L st S) ∧
  (∀ (K : Kt QT) (n : Nat) (L : xL) (st : List Value) (S : QT), nx cod_X7_longest cut_X7_longest K (n + 1) 50 L st S = (O_int 5 1) (nx cod_X7_longest cut_X7_longest K n) 50 L st S) ∧
  (∀ (K : Kt QT) (n : Nat) (L : xL) (st : List Value) (S : QT), nx cod_X7_longest cut_X7_longest K (n + 1) 51 L st S = (O_callV 2 0 (fun S => S) (fun _ S' => S') sp_X7_of) (nx cod_X7_longest cut_X7_longest K n) 51 L st S) ∧
  (∀ (K : Kt QT) (n : Nat) (L : xL) (st : List Value) (S : QT), nx cod_X7_longest cut_X7_longest K (n + 1) 54 L st S = (O_aload 0 1) (nx cod_X7_longest cut_X7_longest K n) 54 L st S) ∧
  (∀ (K : Kt QT) (n : Nat) (L : xL) (st : List Value) (S : QT), nx cod_X7_longest cut_X7_longest K (n + 1) 55 L st S = (O_iload 1 1) (nx cod_X7_longest cut_X7_longest K n) 55 L st S) ∧
  (∀ (K : Kt QT) (n : Nat) (L : xL) (st : List Value) (S : QT), nx cod_X7_longest cut_X7_longest K (n + 1) 56 L st S = (O_int 5 1) (nx cod_X7_longest cut_X7_longest K n) 56 L st S) ∧
  (∀ (K : Kt QT) (n : Nat) (L : xL) (st : List Value) (S : QT), nx cod_X7_longest cut_X7_longest K (n + 1) 57 L st S = (O_callV 2 0 (fun S => S) (fun _ S' => S') sp_X7_of) (nx cod_X7_longest cut_X7_longest K n) 57 L st S) ∧
  (∀ (K : Kt QT) (n : Nat) (L : xL) (st : List Value) (S : QT), nx cod_X7_longest cut_X7_longest K (n + 1) 60 L st S = (O_icmp_le 67) (nx cod_X7_longest cut_X7_longest K n) 60 L st S) ∧
  (∀ (K : Kt QT) (n : Nat) (L : xL) (st : List Value) (S : QT), nx cod_X7_longest cut_X7_longest K (n + 1) 63 L st S = (O_iload 2 1) (nx cod_X7_longest cut_X7_longest K n) 63 L st S) ∧
  (∀ (K : Kt QT) (n : Nat) (L : xL) (st : List Value) (S : QT), nx cod_X7_longest cut_X7_longest K (n + 1) 64 L st S = (O_goto 68) (nx cod_X7_longest cut_X7_longest K n) 64 L st S) ∧
  (∀ (K : Kt QT) (n : Nat) (L : xL) (st : List Value) (S : QT), nx cod_X7_longest cut_X7_longest K (n + 1) 67 L st S = (O_iload 1 1) (nx cod_X7_longest cut_X7_longest K n) 67 L st S) ∧
  (∀ (K : Kt QT) (n : Nat) (L : xL) (st : List Value) (S : QT), nx cod_X7_longest cut_X7_longest K (n + 1) 68 L st S = (O_istore 1 1) (nx cod_X7_longest cut_X7_longest K n) 68 L st S) ∧
  (∀ (K : Kt QT) (n : Nat) (L : xL) (st : List Value) (S : QT), nx cod_X7_longest cut_X7_longest K (n + 1) 69 L st S = (O_iinc 2 1) (nx cod_X7_longest cut_X7_longest K n) 69 L st S) ∧
  (∀ (K : Kt QT) (n : Nat) (L : xL) (st : List Value) (S : QT), nx cod_X7_longest cut_X7_longest K (n + 1) 72 L st S = (O_goto 4) (nx cod_X7_longest cut_X7_longest K n) 72 L st S) ∧
  (∀ (K : Kt QT) (n : Nat) (L : xL) (st : List Value) (S : QT), nx cod_X7_longest cut_X7_longest K (n + 1) 75 L st S = (O_iload 1 1) (nx cod_X7_longest cut_X7_longest K n) 75 L st S) ∧
  (∀ (K : Kt QT) (n : Nat) (L : xL) (st : List Value) (S : QT), nx cod_X7_longest cut_X7_longest K (n + 1) 76 L st S = (O_iret) (nx cod_X7_longest cut_X7_longest K n) 76 L st S) ∧
  (∀ (K : Kt QT) (n : Nat) (L : xL) (st : List Value) (S : QT), nx cod_X7_longest cut_X7_longest K (n + 1) 100000 L st S = K 100000 L st S) := by
  repeat' apply And.intro
  all_goals (intros; rfl)
set_option maxRecDepth 100000 in
theorem mk_X7_longest {P P' : QT} {r : Option Value}  (body : ∀ E : En, CodOk E aW cod_X7_longest → Gd E aW 100000 [] r.toList P' → Gd E aW 0 [some (.ref 0), none, none, none] [] P) : Con yX7_longest cX7_longest 4 (some .int) 2 aW [.ref 0] P r P' :=
  Con.of (by decide) ((aW_len P').trans (aW_len P).symm) rfl (Nat.le_of_ble_eq_true rfl) (fun E F G hr => body E (okc_X7_longest F G) hr)
set_option maxRecDepth 10000 in
theorem con_X7_longest (S : ST) (M : MT) (fl : Bool)  (hp : S.P.ok) : Con yX7_longest cX7_longest 4 (some .int) 2 aW [.ref 0] (S, M, fl) (some (.int (S.P.nextStop))) ((S, M, fl)) := by
  refine mk_X7_longest (fun E C hr => ?_)
  have step : (∀ q3 : Option Value, Gd E aW 4 [some (.ref 0), some (.int (-1)), some (.int (nI 0)), q3] [] (S, M, fl)) → Gd E aW 0 [some (.ref 0), none, none, none] [] (S, M, fl) := by
    intro hh
    have hh := hh none
    clear hr
    (refine nx_ok C (cuts := cut_X7_longest) 1000 _ _ _ _ ?_; simp only [w_X7_longest, ops_eq, xst_eq, call_eq, oK_eq, Option.toList_some, Option.toList_none, List.cons_append, List.nil_append, List.length_cons, List.length_nil, true_and, and_true, Nat.reduceAdd, aW_F, aW_A, aW_P, aW_w, abs_eq, O_asti_eq, v170, cl_eq, ST_id, MT_gs, ST_gs, PT_gs, ZT_gs, NT_gs, ET_gs, se_X7_runs, se_X7_of])
    ((repeat' (with_reducible first | apply And.intro | intro _)) <;> simp_all [nI_0, ST_id, MT_gs, ST_gs, PT_gs, ZT_gs, NT_gs, ET_gs])
  refine step ?_
  refine it_up (f := fun p b => if S.P.run p = true ∧ ¬ nI p = S.P.vrb ∧ (b = -1 ∨ S.P.minutes b.toNatClampNeg < S.P.minutes p) then nI p else b) (a := (-1 : Int32)) (n := S.P.n) (fun _ b => isP b 6) (fun i b => ∀ q3 : Option Value, Gd E aW 4 [some (.ref 0), some (.int b), some (.int (nI i)), q3] [] (S, M, fl)) (Or.inl rfl) (fun i b hi hb => ite_isP (ixs hp hi).1 hb) (fun i b hi hb hn q3 => ?_) (fun q3 => ?_)
  · have hx := ixs hp hi
    have hn := hn (some (.int (bI (decide (S.P.run i = true ∧ ¬ nI i = S.P.vrb)))))
    unfold isP at hb
    clear hr
    (refine nx1_ok C cut_X7_longest 1000 ?_; simp only [w_X7_longest, ops_eq, xst_eq, call_eq, oK_eq, Option.toList_some, Option.toList_none, List.cons_append, List.nil_append, List.length_cons, List.length_nil, true_and, and_true, Nat.reduceAdd, aW_F, aW_A, aW_P, aW_w, abs_eq, O_asti_eq, v170, cl_eq, ST_id, MT_gs, ST_gs, PT_gs, ZT_gs, NT_gs, ET_gs, se_X7_runs, se_X7_of, hx, v8_eq, bI_eq, get_eq])
    ((repeat' (with_reducible first | apply And.intro | intro _)) <;> simp_all [bI, ST_id, MT_gs, ST_gs, PT_gs, ZT_gs, NT_gs, ET_gs])
  · have hx := ixe hp
    (refine nx1_ok C cut_X7_longest 1000 ?_; simp only [w_X7_longest, ops_eq, xst_eq, call_eq, oK_eq, Option.toList_some, Option.toList_none, List.cons_append, List.nil_append, List.length_cons, List.length_nil, true_and, and_true, Nat.reduceAdd, aW_F, aW_A, aW_P, aW_w, abs_eq, O_asti_eq, v170, cl_eq, ST_id, MT_gs, ST_gs, PT_gs, ZT_gs, NT_gs, ET_gs, se_X7_runs, se_X7_of, hx])
    ((repeat' (with_reducible first | apply And.intro | intro _)) <;> simp_all [PT.nextStop, ST_id, MT_gs, ST_gs, PT_gs, ZT_gs, NT_gs, ET_gs])
def spc_X7_longest (S : ST) (M : MT) (fl : Bool)  (K : Option Value → QT → Prop) : Prop := (S.P.ok) ∧ K (some (.int (S.P.nextStop))) ((S, M, fl))
def sp_X7_longest : Sp QT := fun av q K => match av with
  | [.ref 0] => spc_X7_longest q.1 q.2.1 q.2.2  K
  | _ => False
theorem se_X7_longest (S : ST) (M : MT) (fl : Bool)  (K : Option Value → QT → Prop) : sp_X7_longest [.ref 0] (S, M, fl) K = ((S.P.ok) ∧ K (some (.int (S.P.nextStop))) ((S, M, fl))) := rfl
theorem spok_X7_longest : SpOk yX7_longest cX7_longest 4 (some .int) 2 aW sp_X7_longest := by
  intro av q K h
  unfold sp_X7_longest at h
  split at h
  · refine ⟨_, _, ?_, con_X7_longest q.1 q.2.1 q.2.2  h.1, h.2⟩; trivial
  · exact h.elim
theorem cN_one {c : Nat → Bool} {v : Nat} : ∀ {n : Nat}, (∀ j, j < n → (c j = true ↔ j = v)) → cN c n = if v < n then 1 else 0
  | 0, _ => rfl
  | n + 1, h => by
    rw [cN_s, cN_one (n := n) (fun j hj => h j (by omega))]
    by_cases q : v < n
    · rw [if_pos q, if_neg (fun z => by have := (h n (by omega)).mp z; omega), if_pos (by omega)]
    · rw [if_neg q]
      by_cases r : v = n
      · rw [if_pos ((h n (by omega)).mpr r.symm), if_pos (by omega)]
      · rw [if_neg (fun z => r ((h n (by omega)).mp z).symm), if_neg (by omega)]
theorem PT.nextStop_ok (S : PT) : (S.nextStop = -1 ∧ ∀ i, i < S.n → ¬ (S.run i = true ∧ ¬ nI i = S.vrb)) ∨ ∃ i, i < S.n ∧ S.nextStop = nI i ∧ S.run i = true := by
  have h := it_inv (f := fun p b => if S.run p = true ∧ ¬ nI p = S.vrb ∧ (b = -1 ∨ S.minutes b.toNatClampNeg < S.minutes p) then nI p else b) (a := (-1 : Int32)) (n := S.n) (fun m (b : Int32) => (b = -1 ∧ ∀ i, i < m → ¬ (S.run i = true ∧ ¬ nI i = S.vrb)) ∨ ∃ i, i < S.n ∧ b = nI i ∧ S.run i = true) (Or.inl ⟨rfl, fun i hi => absurd hi (Nat.not_lt_zero i)⟩) (fun m b hm hb => by
    split
    · rename_i q
      exact Or.inr ⟨m, hm, rfl, q.1⟩
    · rename_i q
      rcases hb with ⟨h1, h2⟩ | h1
      · refine Or.inl ⟨h1, fun i hi z => ?_⟩
        rcases Nat.lt_or_ge i m with g | g
        · exact h2 i g z
        · rw [show i = m by omega] at z
          exact q ⟨z.1, z.2, Or.inl h1⟩
      · exact Or.inr h1)
  exact h
theorem stop_facts {S : PT} (h : S.inv) : S.running = nI (cN S.run S.n) ∧ (0 < S.running → ((¬ S.nextStop = -1) ↔ (1 < S.running ∨ S.has S.vrb = false))) := by
  have hr : S.running = nI (cN S.run S.n) := it_cN _ _
  refine ⟨hr, fun h0 => ?_⟩
  have hn := h.1.2
  have hub := cN_ub S.run S.n
  have b1 : 1 < S.running ↔ 1 < cN S.run S.n := by rw [hr, show (1 : Int32) = nI 1 from rfl, nI_ltI (by omega) (by omega)]
  have b0 : 0 < cN S.run S.n := by
    rw [hr, show (0 : Int32) = nI 0 from rfl, nI_ltI (by omega) (by omega)] at h0
    exact h0
  have hsp : cN S.run S.n = cN (fun j => S.run j && decide (¬ nI j = S.vrb)) S.n + cN (fun j => S.run j && decide (nI j = S.vrb)) S.n := cN_or (fun j hj => by
    by_cases q : nI j = S.vrb <;> by_cases r : S.run j = true <;> simp [q, r])
  have hpos : (¬ S.nextStop = -1) ↔ 0 < cN (fun j => S.run j && decide (¬ nI j = S.vrb)) S.n := by
    rcases S.nextStop_ok with ⟨e, g⟩ | ⟨i, hi, e, g⟩
    · refine ⟨fun z => absurd e z, fun z => ?_⟩
      obtain ⟨t, ht, h1, _⟩ := cN_ex z
      simp only [Bool.and_eq_true, decide_eq_true_eq] at h1
      exact absurd h1 (g t ht)
    · refine ⟨fun z => ?_, fun _ => by rw [e]; exact (ixs h.1 hi).2.2.2.2.2⟩
      rcases Nat.eq_zero_or_pos (cN (fun j => S.run j && decide (¬ nI j = S.vrb)) S.n) with k | k
      · exfalso
        have hall : ∀ j, j < S.n → ¬ (S.run j = true ∧ ¬ nI j = S.vrb) := fun j hj hc => by
          have h1 := cN_mono (fun j => S.run j && decide (¬ nI j = S.vrb)) (m := j + 1) (n := S.n) (by omega)
          rw [cN_s, if_pos (by simpa using hc)] at h1
          omega
        have h3 : S.nextStop = -1 := by
          have := it_inv (f := fun p b => if S.run p = true ∧ ¬ nI p = S.vrb ∧ (b = -1 ∨ S.minutes b.toNatClampNeg < S.minutes p) then nI p else b) (a := (-1 : Int32)) (n := S.n) (fun m (b : Int32) => b = -1) rfl (fun m b hm hb => by
            split
            · rename_i q
              exact absurd ⟨q.1, q.2.1⟩ (hall m hm)
            · exact hb)
          exact this
        exact z h3
      · exact k
  rw [hpos, b1]
  rcases h.2.2.2 with q | ⟨v, v1, v2, v3, v4⟩
  · have hf : S.has S.vrb = false := (PT.vok_has h).mpr q
    have : cN (fun j => S.run j && decide (nI j = S.vrb)) S.n = 0 := by
      have := cN_le (c := fun j => S.run j && decide (nI j = S.vrb)) (d := fun _ => false) (n := S.n) (fun j hj hc => by
        simp only [Bool.and_eq_true, decide_eq_true_eq] at hc
        rw [q] at hc
        exact absurd hc.2 (ixs h.1 hj).2.2.2.2.2)
      have h0 : ∀ m, cN (fun _ => false) m = 0 := fun m => by
        induction m with
        | zero => rfl
        | succ m ih => rw [cN_s, ih]; rfl
      rw [h0] at this
      omega
    refine ⟨fun _ => Or.inr hf, fun _ => by omega⟩
  · have hf : S.has S.vrb = true := by rw [v2]; exact PT.n_has h.1 v1
    have h1 : cN (fun j => S.run j && decide (nI j = S.vrb)) S.n = 1 := by
      rw [cN_one (v := v) (fun j hj => ?_), if_pos v1]
      simp only [Bool.and_eq_true, decide_eq_true_eq]
      rw [v2, nI_eq (by omega) (by omega)]
      refine ⟨fun z => z.2, fun z => ⟨by rw [z]; simpa [PT.run] using v3, z⟩⟩
    rw [hf]
    refine ⟨fun _ => Or.inl (by omega), fun z => ?_⟩
    rcases z with z | z
    · omega
    · cases z
