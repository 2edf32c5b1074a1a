/-! ===== the law's isMinute ===== -/
def cod_L_isMinute (N : Nat) (xs : Nat → Int32) : List (Nat × Op LT) := [(0, O_aload 0 1), (1, O_int 1 1), (2, O_callV 1 0 (fun S : LT => S.1) (fun S F => (F, S.2)) (spG yX6_station cX6_station 2 (some .int) 3 fpW)), (5, O_istore 1 1), (6, O_aload 0 1), (7, O_int 14 2), (9, O_callV 1 0 (fun S : LT => S.1) (fun S F => (F, S.2)) (spG yX6_station cX6_station 2 (some .int) 3 fpW)), (12, O_istore 2 1), (13, O_aload 0 1), (14, O_int 0 1), (15, O_callV 1 0 (fun S : LT => S.1) (fun S F => (F, S.2)) (spG yX6_station cX6_station 2 (some .int) 3 fpW)), (18, O_istore 3 1), (19, O_aload 0 1), (20, O_int 1 1), (21, O_int 0 1), (22, O_callV 2 0 (fun S : LT => S.1) (fun S F => (F, S.2)) (spG yX6_foresee cX6_foresee 4 (some .int) 5 fpW)), (25, O_istore 4 2), (27, O_aload 0 1), (28, O_int 1 1), (29, O_callV 1 0 (fun S : LT => S.1) (fun S F => (F, S.2)) (spG yX6_pass cX6_pass 3 (some .int) 5 fpW)), (32, O_if_le 65), (35, O_aload 0 1), (36, O_int 14 2), (38, O_callV 1 0 (fun S : LT => S.1) (fun S F => (F, S.2)) (spG yX6_station cX6_station 2 (some .int) 3 fpW)), (41, O_iload 2 1), (42, O_aload 0 1), (43, O_int 2 1), (44, O_callV 1 0 (fun S : LT => S.1) (fun S F => (F, S.2)) (spG yX6_station cX6_station 2 (some .int) 3 fpW)), (47, O_iadd), (48, O_icmp_ne 65), (51, O_aload 0 1), (52, O_int 0 1), (53, O_callV 1 0 (fun S : LT => S.1) (fun S F => (F, S.2)) (spG yX6_station cX6_station 2 (some .int) 3 fpW)), (56, O_iload 4 2), (58, O_icmp_ne 65), (61, O_int 1 1), (62, O_goto 66), (65, O_int 0 1), (66, O_istore 5 2), (68, O_iload 1 1), (69, O_aload 0 1), (70, O_int 2 1), (71, O_callV 1 0 (fun S : LT => S.1) (fun S F => (F, S.2)) (spG yX6_station cX6_station 2 (some .int) 3 fpW)), (74, O_isub), (75, O_aload 0 1), (76, O_int 34 2), (78, O_callV 1 0 (fun S : LT => S.1) (fun S F => (F, S.2)) (spG yX6_count cX6_count 2 (some .int) 2 fpW)), (81, O_iadd), (82, O_istore 6 2), (84, O_iload 5 2), (86, O_if_eq 117), (89, O_aload 0 1), (90, O_int 1 1), (91, O_callV 1 0 (fun S : LT => S.1) (fun S F => (F, S.2)) (spG yX6_station cX6_station 2 (some .int) 3 fpW)), (94, O_iload 6 2), (96, O_int 20000 3), (99, O_icmp_le 108), (102, O_int 20000 3), (105, O_goto 110), (108, O_iload 6 2), (110, O_icmp_ne 117), (113, O_int 1 1), (114, O_goto 118), (117, O_int 0 1), (118, O_istore 5 2), (120, O_iload 5 2), (122, O_if_eq 164), (125, O_aload 0 1), (126, O_callV 0 0 (fun S : LT => S.1) (fun S F => (F, S.2)) (spG yX6_undo cX6_undo 1 (some .int) 3 fpW)), (129, O_if_lt 164), (132, O_aload 0 1), (133, O_int 1 1), (134, O_callV 1 0 (fun S : LT => S.1) (fun S F => (F, S.2)) (spG yX6_station cX6_station 2 (some .int) 3 fpW)), (137, O_iload 1 1), (138, O_icmp_ne 164), (141, O_aload 0 1), (142, O_int 0 1), (143, O_callV 1 0 (fun S : LT => S.1) (fun S F => (F, S.2)) (spG yX6_station cX6_station 2 (some .int) 3 fpW)), (146, O_iload 3 1), (147, O_icmp_ne 164), (150, O_aload 0 1), (151, O_int 14 2), (153, O_callV 1 0 (fun S : LT => S.1) (fun S F => (F, S.2)) (spG yX6_station cX6_station 2 (some .int) 3 fpW)), (156, O_iload 2 1), (157, O_icmp_ne 164), (160, O_int 1 1), (161, O_goto 165), (164, O_int 0 1), (165, O_zret)]
abbrev cut_L_isMinute : List Nat := [65, 68, 84, 117, 120, 164]
set_option maxRecDepth 100000 in
theorem okc_L_isMinute {E : En} {N : Nat} {xs : Nat → Int32} (F : Fx E RL cL_isMinute 7 6) (G : Fr E (some .boolean)) (Z : LZ N xs E) : CodOk E lW (cod_L_isMinute N xs) := by
  unfold CodOk cod_L_isMinute
  refine List.forall_mem_cons.mpr ⟨ok_aload_n F dL_isMinute_0 rfl (by decide), ?_⟩
  refine List.forall_mem_cons.mpr ⟨ok_iconst F dL_isMinute_1 (by decide) (by decide), ?_⟩
  refine List.forall_mem_cons.mpr ⟨ok_callV F (spG_ok yX6_station cX6_station 2 (some .int) 3 fpW) ln_lw_F rcv_fpW (by decide +kernel) (by decide) dL_isMinute_2 (by decide), ?_⟩
  refine List.forall_mem_cons.mpr ⟨ok_istore_n F dL_isMinute_5 rfl (by decide) (by decide), ?_⟩
  refine List.forall_mem_cons.mpr ⟨ok_aload_n F dL_isMinute_6 rfl (by decide), ?_⟩
  refine List.forall_mem_cons.mpr ⟨ok_bipush F dL_isMinute_7 (by decide) (by decide), ?_⟩
  refine List.forall_mem_cons.mpr ⟨ok_callV F (spG_ok yX6_station cX6_station 2 (some .int) 3 fpW) ln_lw_F rcv_fpW (by decide +kernel) (by decide) dL_isMinute_9 (by decide), ?_⟩
  refine List.forall_mem_cons.mpr ⟨ok_istore_n F dL_isMinute_12 rfl (by decide) (by decide), ?_⟩
  refine List.forall_mem_cons.mpr ⟨ok_aload_n F dL_isMinute_13 rfl (by decide), ?_⟩
  refine List.forall_mem_cons.mpr ⟨ok_iconst F dL_isMinute_14 (by decide) (by decide), ?_⟩
  refine List.forall_mem_cons.mpr ⟨ok_callV F (spG_ok yX6_station cX6_station 2 (some .int) 3 fpW) ln_lw_F rcv_fpW (by decide +kernel) (by decide) dL_isMinute_15 (by decide), ?_⟩
  refine List.forall_mem_cons.mpr ⟨ok_istore_n F dL_isMinute_18 rfl (by decide) (by decide), ?_⟩
  refine List.forall_mem_cons.mpr ⟨ok_aload_n F dL_isMinute_19 rfl (by decide), ?_⟩
  refine List.forall_mem_cons.mpr ⟨ok_iconst F dL_isMinute_20 (by decide) (by decide), ?_⟩
  refine List.forall_mem_cons.mpr ⟨ok_iconst F dL_isMinute_21 (by decide) (by decide), ?_⟩
  refine List.forall_mem_cons.mpr ⟨ok_callV F (spG_ok yX6_foresee cX6_foresee 4 (some .int) 5 fpW) ln_lw_F rcv_fpW (by decide +kernel) (by decide) dL_isMinute_22 (by decide), ?_⟩
  refine List.forall_mem_cons.mpr ⟨ok_istore F dL_isMinute_25 (by decide) (by decide), ?_⟩
  refine List.forall_mem_cons.mpr ⟨ok_aload_n F dL_isMinute_27 rfl (by decide), ?_⟩
  refine List.forall_mem_cons.mpr ⟨ok_iconst F dL_isMinute_28 (by decide) (by decide), ?_⟩
  refine List.forall_mem_cons.mpr ⟨ok_callV F (spG_ok yX6_pass cX6_pass 3 (some .int) 5 fpW) ln_lw_F rcv_fpW (by decide +kernel) (by decide) dL_isMinute_29 (by decide), ?_⟩
  refine List.forall_mem_cons.mpr ⟨ok_if_le F dL_isMinute_32 (by decide) (by decide) (by decide), ?_⟩
  refine List.forall_mem_cons.mpr ⟨ok_aload_n F dL_isMinute_35 rfl (by decide), ?_⟩
  refine List.forall_mem_cons.mpr ⟨ok_bipush F dL_isMinute_36 (by decide) (by decide), ?_⟩
  refine List.forall_mem_cons.mpr ⟨ok_callV F (spG_ok yX6_station cX6_station 2 (some .int) 3 fpW) ln_lw_F rcv_fpW (by decide +kernel) (by decide) dL_isMinute_38 (by decide), ?_⟩
  refine List.forall_mem_cons.mpr ⟨ok_iload_n F dL_isMinute_41 rfl (by decide), ?_⟩
  refine List.forall_mem_cons.mpr ⟨ok_aload_n F dL_isMinute_42 rfl (by decide), ?_⟩
  refine List.forall_mem_cons.mpr ⟨ok_iconst F dL_isMinute_43 (by decide) (by decide), ?_⟩
  refine List.forall_mem_cons.mpr ⟨ok_callV F (spG_ok yX6_station cX6_station 2 (some .int) 3 fpW) ln_lw_F rcv_fpW (by decide +kernel) (by decide) dL_isMinute_44 (by decide), ?_⟩
  refine List.forall_mem_cons.mpr ⟨ok_iadd F dL_isMinute_47 (by decide), ?_⟩
  refine List.forall_mem_cons.mpr ⟨ok_icmp_ne F dL_isMinute_48 (by decide) (by decide) (by decide), ?_⟩
  refine List.forall_mem_cons.mpr ⟨ok_aload_n F dL_isMinute_51 rfl (by decide), ?_⟩
  refine List.forall_mem_cons.mpr ⟨ok_iconst F dL_isMinute_52 (by decide) (by decide), ?_⟩
  refine List.forall_mem_cons.mpr ⟨ok_callV F (spG_ok yX6_station cX6_station 2 (some .int) 3 fpW) ln_lw_F rcv_fpW (by decide +kernel) (by decide) dL_isMinute_53 (by decide), ?_⟩
  refine List.forall_mem_cons.mpr ⟨ok_iload F dL_isMinute_56 (by decide), ?_⟩
  refine List.forall_mem_cons.mpr ⟨ok_icmp_ne F dL_isMinute_58 (by decide) (by decide) (by decide), ?_⟩
  refine List.forall_mem_cons.mpr ⟨ok_iconst F dL_isMinute_61 (by decide) (by decide), ?_⟩
  refine List.forall_mem_cons.mpr ⟨ok_goto F dL_isMinute_62 (by decide) (by decide) (by decide), ?_⟩
  refine List.forall_mem_cons.mpr ⟨ok_iconst F dL_isMinute_65 (by decide) (by decide), ?_⟩
  refine List.forall_mem_cons.mpr ⟨ok_istore F dL_isMinute_66 (by decide) (by decide), ?_⟩
  refine List.forall_mem_cons.mpr ⟨ok_iload_n F dL_isMinute_68 rfl (by decide), ?_⟩
  refine List.forall_mem_cons.mpr ⟨ok_aload_n F dL_isMinute_69 rfl (by decide), ?_⟩
  refine List.forall_mem_cons.mpr ⟨ok_iconst F dL_isMinute_70 (by decide) (by decide), ?_⟩
  refine List.forall_mem_cons.mpr ⟨ok_callV F (spG_ok yX6_station cX6_station 2 (some .int) 3 fpW) ln_lw_F rcv_fpW (by decide +kernel) (by decide) dL_isMinute_71 (by decide), ?_⟩
  refine List.forall_mem_cons.mpr ⟨ok_isub F dL_isMinute_74 (by decide), ?_⟩
  refine List.forall_mem_cons.mpr ⟨ok_aload_n F dL_isMinute_75 rfl (by decide), ?_⟩
  refine List.forall_mem_cons.mpr ⟨ok_bipush F dL_isMinute_76 (by decide) (by decide), ?_⟩
  refine List.forall_mem_cons.mpr ⟨ok_callV F (spG_ok yX6_count cX6_count 2 (some .int) 2 fpW) ln_lw_F rcv_fpW (by decide +kernel) (by decide) dL_isMinute_78 (by decide), ?_⟩
  refine List.forall_mem_cons.mpr ⟨ok_iadd F dL_isMinute_81 (by decide), ?_⟩
  refine List.forall_mem_cons.mpr ⟨ok_istore F dL_isMinute_82 (by decide) (by decide), ?_⟩
  refine List.forall_mem_cons.mpr ⟨ok_iload F dL_isMinute_84 (by decide), ?_⟩
  refine List.forall_mem_cons.mpr ⟨ok_if_eq F dL_isMinute_86 (by decide) (by decide) (by decide), ?_⟩
  refine List.forall_mem_cons.mpr ⟨ok_aload_n F dL_isMinute_89 rfl (by decide), ?_⟩
  refine List.forall_mem_cons.mpr ⟨ok_iconst F dL_isMinute_90 (by decide) (by decide), ?_⟩
  refine List.forall_mem_cons.mpr ⟨ok_callV F (spG_ok yX6_station cX6_station 2 (some .int) 3 fpW) ln_lw_F rcv_fpW (by decide +kernel) (by decide) dL_isMinute_91 (by decide), ?_⟩
  refine List.forall_mem_cons.mpr ⟨ok_iload F dL_isMinute_94 (by decide), ?_⟩
  refine List.forall_mem_cons.mpr ⟨ok_sipush F dL_isMinute_96 (by decide) (by decide), ?_⟩
  refine List.forall_mem_cons.mpr ⟨ok_icmp_le F dL_isMinute_99 (by decide) (by decide) (by decide), ?_⟩
  refine List.forall_mem_cons.mpr ⟨ok_sipush F dL_isMinute_102 (by decide) (by decide), ?_⟩
  refine List.forall_mem_cons.mpr ⟨ok_goto F dL_isMinute_105 (by decide) (by decide) (by decide), ?_⟩
  refine List.forall_mem_cons.mpr ⟨ok_iload F dL_isMinute_108 (by decide), ?_⟩
  refine List.forall_mem_cons.mpr ⟨ok_icmp_ne F dL_isMinute_110 (by decide) (by decide) (by decide), ?_⟩
  refine List.forall_mem_cons.mpr ⟨ok_iconst F dL_isMinute_113 (by decide) (by decide), ?_⟩
  refine List.forall_mem_cons.mpr ⟨ok_goto F dL_isMinute_114 (by decide) (by decide) (by decide), ?_⟩
  refine List.forall_mem_cons.mpr ⟨ok_iconst F dL_isMinute_117 (by decide) (by decide), ?_⟩
  refine List.forall_mem_cons.mpr ⟨ok_istore F dL_isMinute_118 (by decide) (by decide), ?_⟩
  refine List.forall_mem_cons.mpr ⟨ok_iload F dL_isMinute_120 (by decide), ?_⟩
  refine List.forall_mem_cons.mpr ⟨ok_if_eq F dL_isMinute_122 (by decide) (by decide) (by decide), ?_⟩
  refine List.forall_mem_cons.mpr ⟨ok_aload_n F dL_isMinute_125 rfl (by decide), ?_⟩
  refine List.forall_mem_cons.mpr ⟨ok_callV F (spG_ok yX6_undo cX6_undo 1 (some .int) 3 fpW) ln_lw_F rcv_fpW (by decide +kernel) (by decide) dL_isMinute_126 (by decide), ?_⟩
  refine List.forall_mem_cons.mpr ⟨ok_if_lt F dL_isMinute_129 (by decide) (by decide) (by decide), ?_⟩
  refine List.forall_mem_cons.mpr ⟨ok_aload_n F dL_isMinute_132 rfl (by decide), ?_⟩
  refine List.forall_mem_cons.mpr ⟨ok_iconst F dL_isMinute_133 (by decide) (by decide), ?_⟩
  refine List.forall_mem_cons.mpr ⟨ok_callV F (spG_ok yX6_station cX6_station 2 (some .int) 3 fpW) ln_lw_F rcv_fpW (by decide +kernel) (by decide) dL_isMinute_134 (by decide), ?_⟩
  refine List.forall_mem_cons.mpr ⟨ok_iload_n F dL_isMinute_137 rfl (by decide), ?_⟩
  refine List.forall_mem_cons.mpr ⟨ok_icmp_ne F dL_isMinute_138 (by decide) (by decide) (by decide), ?_⟩
  refine List.forall_mem_cons.mpr ⟨ok_aload_n F dL_isMinute_141 rfl (by decide), ?_⟩
  refine List.forall_mem_cons.mpr ⟨ok_iconst F dL_isMinute_142 (by decide) (by decide), ?_⟩
  refine List.forall_mem_cons.mpr ⟨ok_callV F (spG_ok yX6_station cX6_station 2 (some .int) 3 fpW) ln_lw_F rcv_fpW (by decide +kernel) (by decide) dL_isMinute_143 (by decide), ?_⟩
  refine List.forall_mem_cons.mpr ⟨ok_iload_n F dL_isMinute_146 rfl (by decide), ?_⟩
  refine List.forall_mem_cons.mpr ⟨ok_icmp_ne F dL_isMinute_147 (by decide) (by decide) (by decide), ?_⟩
  refine List.forall_mem_cons.mpr ⟨ok_aload_n F dL_isMinute_150 rfl (by decide), ?_⟩
  refine List.forall_mem_cons.mpr ⟨ok_bipush F dL_isMinute_151 (by decide) (by decide), ?_⟩
  refine List.forall_mem_cons.mpr ⟨ok_callV F (spG_ok yX6_station cX6_station 2 (some .int) 3 fpW) ln_lw_F rcv_fpW (by decide +kernel) (by decide) dL_isMinute_153 (by decide), ?_⟩
  refine List.forall_mem_cons.mpr ⟨ok_iload_n F dL_isMinute_156 rfl (by decide), ?_⟩
  refine List.forall_mem_cons.mpr ⟨ok_icmp_ne F dL_isMinute_157 (by decide) (by decide) (by decide), ?_⟩
  refine List.forall_mem_cons.mpr ⟨ok_iconst F dL_isMinute_160 (by decide) (by decide), ?_⟩
  refine List.forall_mem_cons.mpr ⟨ok_goto F dL_isMinute_161 (by decide) (by decide) (by decide), ?_⟩
  refine List.forall_mem_cons.mpr ⟨ok_iconst F dL_isMinute_164 (by decide) (by decide), ?_⟩
  refine List.forall_mem_cons.mpr ⟨ok_zret F G dL_isMinute_165 (by decide), ?_⟩
  exact fun _ h => absurd h List.not_mem_nil
set_option maxRecDepth 100000 in
theorem w_L_isMinute (N : Nat) (xs : Nat → Int32) : (∀ (K : Kt LT) (k : Nat) (L : xL) (st : List Value) (S : LT), nx (cod_L_isMinute N xs) cut_L_isMinute K (k + 1) 0 L st S = (O_aload 0 1) (nx (cod_L_isMinute N xs) cut_L_isMinute K k) 0 L st S) ∧
  (∀ (K : Kt LT) (k : Nat) (L : xL) (st : List Value) (S : LT), nx (cod_L_isMinute N xs) cut_L_isMinute K (k + 1) 1 L st S = (O_int 1 1) (nx (cod_L_isMinute N xs) cut_L_isMinute K k) 1 L st S) ∧
  (∀ (K : Kt LT) (k : Nat) (L : xL) (st : List Value) (S : LT), nx (cod_L_isMinute N xs) cut_L_isMinute K (k + 1) 2 L st S = (O_callV 1 0 (fun S : LT => S.1) (fun S F => (F, S.2)) (spG yX6_station cX6_station 2 (some .int) 3 fpW)) (nx (cod_L_isMinute N xs) cut_L_isMinute K k) 2 L st S) ∧
  (∀ (K : Kt LT) (k : Nat) (L : xL) (st : List Value) (S : LT), nx (cod_L_isMinute N xs) cut_L_isMinute K (k + 1) 5 L st S = (O_istore 1 1) (nx (cod_L_isMinute N xs) cut_L_isMinute K k) 5 L st S) ∧
  (∀ (K : Kt LT) (k : Nat) (L : xL) (st : List Value) (S : LT), nx (cod_L_isMinute N xs) cut_L_isMinute K (k + 1) 6 L st S = (O_aload 0 1) (nx (cod_L_isMinute N xs) cut_L_isMinute K k) 6 L st S) ∧
  (∀ (K : Kt LT) (k : Nat) (L : xL) (st : List Value) (S : LT), nx (cod_L_isMinute N xs) cut_L_isMinute K (k + 1) 7 L st S = (O_int 14 2) (nx (cod_L_isMinute N xs) cut_L_isMinute K k) 7 L st S) ∧
  (∀ (K : Kt LT) (k : Nat) (L : xL) (st : List Value) (S : LT), nx (cod_L_isMinute N xs) cut_L_isMinute K (k + 1) 9 L st S = (O_callV 1 0 (fun S : LT => S.1) (fun S F => (F, S.2)) (spG yX6_station cX6_station 2 (some .int) 3 fpW)) (nx (cod_L_isMinute N xs) cut_L_isMinute K k) 9 L st S) ∧
  (∀ (K : Kt LT) (k : Nat) (L : xL) (st : List Value) (S : LT), nx (cod_L_isMinute N xs) cut_L_isMinute K (k + 1) 12 L st S = (O_istore 2 1) (nx (cod_L_isMinute N xs) cut_L_isMinute K k) 12 L st S) ∧
  (∀ (K : Kt LT) (k : Nat) (L : xL) (st : List Value) (S : LT), nx (cod_L_isMinute N xs) cut_L_isMinute K (k + 1) 13 L st S = (O_aload 0 1) (nx (cod_L_isMinute N xs) cut_L_isMinute K k) 13 L st S) ∧
  (∀ (K : Kt LT) (k : Nat) (L : xL) (st : List Value) (S : LT), nx (cod_L_isMinute N xs) cut_L_isMinute K (k + 1) 14 L st S = (O_int 0 1) (nx (cod_L_isMinute N xs) cut_L_isMinute K k) 14 L st S) ∧
  (∀ (K : Kt LT) (k : Nat) (L : xL) (st : List Value) (S : LT), nx (cod_L_isMinute N xs) cut_L_isMinute K (k + 1) 15 L st S = (O_callV 1 0 (fun S : LT => S.1) (fun S F => (F, S.2)) (spG yX6_station cX6_station 2 (some .int) 3 fpW)) (nx (cod_L_isMinute N xs) cut_L_isMinute K k) 15 L st S) ∧
  (∀ (K : Kt LT) (k : Nat) (L : xL) (st : List Value) (S : LT), nx (cod_L_isMinute N xs) cut_L_isMinute K (k + 1) 18 L st S = (O_istore 3 1) (nx (cod_L_isMinute N xs) cut_L_isMinute K k) 18 L st S) ∧
  (∀ (K : Kt LT) (k : Nat) (L : xL) (st : List Value) (S : LT), nx (cod_L_isMinute N xs) cut_L_isMinute K (k + 1) 19 L st S = (O_aload 0 1) (nx (cod_L_isMinute N xs) cut_L_isMinute K k) 19 L st S) ∧
  (∀ (K : Kt LT) (k : Nat) (L : xL) (st : List Value) (S : LT), nx (cod_L_isMinute N xs) cut_L_isMinute K (k + 1) 20 L st S = (O_int 1 1) (nx (cod_L_isMinute N xs) cut_L_isMinute K k) 20 L st S) ∧
  (∀ (K : Kt LT) (k : Nat) (L : xL) (st : List Value) (S : LT), nx (cod_L_isMinute N xs) cut_L_isMinute K (k + 1) 21 L st S = (O_int 0 1) (nx (cod_L_isMinute N xs) cut_L_isMinute K k) 21 L st S) ∧
  (∀ (K : Kt LT) (k : Nat) (L : xL) (st : List Value) (S : LT), nx (cod_L_isMinute N xs) cut_L_isMinute K (k + 1) 22 L st S = (O_callV 2 0 (fun S : LT => S.1) (fun S F => (F, S.2)) (spG yX6_foresee cX6_foresee 4 (some .int) 5 fpW)) (nx (cod_L_isMinute N xs) cut_L_isMinute K k) 22 L st S) ∧
  (∀ (K : Kt LT) (k : Nat) (L : xL) (st : List Value) (S : LT), nx (cod_L_isMinute N xs) cut_L_isMinute K (k + 1) 25 L st S = (O_istore 4 2) (nx (cod_L_isMinute N xs) cut_L_isMinute K k) 25 L st S) ∧
  (∀ (K : Kt LT) (k : Nat) (L : xL) (st : List Value) (S : LT), nx (cod_L_isMinute N xs) cut_L_isMinute K (k + 1) 27 L st S = (O_aload 0 1) (nx (cod_L_isMinute N xs) cut_L_isMinute K k) 27 L st S) ∧
  (∀ (K : Kt LT) (k : Nat) (L : xL) (st : List Value) (S : LT), nx (cod_L_isMinute N xs) cut_L_isMinute K (k + 1) 28 L st S = (O_int 1 1) (nx (cod_L_isMinute N xs) cut_L_isMinute K k) 28 L st S) ∧
  (∀ (K : Kt LT) (k : Nat) (L : xL) (st : List Value) (S : LT), nx (cod_L_isMinute N xs) cut_L_isMinute K (k + 1) 29 L st S = (O_callV 1 0 (fun S : LT => S.1) (fun S F => (F, S.2)) (spG yX6_pass cX6_pass 3 (some .int) 5 fpW)) (nx (cod_L_isMinute N xs) cut_L_isMinute K k) 29 L st S) ∧
  (∀ (K : Kt LT) (k : Nat) (L : xL) (st : List Value) (S : LT), nx (cod_L_isMinute N xs) cut_L_isMinute K (k + 1) 32 L st S = (O_if_le 65) (nx (cod_L_isMinute N xs) cut_L_isMinute K k) 32 L st S) ∧
  (∀ (K : Kt LT) (k : Nat) (L : xL) (st : List Value) (S : LT), nx (cod_L_isMinute N xs) cut_L_isMinute K (k + 1) 35 L st S = (O_aload 0 1) (nx (cod_L_isMinute N xs) cut_L_isMinute K k) 35 L st S) ∧
  (∀ (K : Kt LT) (k : Nat) (L : xL) (st : List Value) (S : LT), nx (cod_L_isMinute N xs) cut_L_isMinute K (k + 1) 36 L st S = (O_int 14 2) (nx (cod_L_isMinute N xs) cut_L_isMinute K k) 36 L st S) ∧
  (∀ (K : Kt LT) (k : Nat) (L : xL) (st : List Value) (S : LT), nx (cod_L_isMinute N xs) cut_L_isMinute K (k + 1) 38 L st S = (O_callV 1 0 (fun S : LT => S.1) (fun S F => (F, S.2)) (spG yX6_station cX6_station 2 (some .int) 3 fpW)) (nx (cod_L_isMinute N xs) cut_L_isMinute K k) 38 L st S) ∧
  (∀ (K : Kt LT) (k : Nat) (L : xL) (st : List Value) (S : LT), nx (cod_L_isMinute N xs) cut_L_isMinute K (k + 1) 41 L st S = (O_iload 2 1) (nx (cod_L_isMinute N xs) cut_L_isMinute K k) 41 L st S) ∧
  (∀ (K : Kt LT) (k : Nat) (L : xL) (st : List Value) (S : LT), nx (cod_L_isMinute N xs) cut_L_isMinute K (k + 1) 42 L st S = (O_aload 0 1) (nx (cod_L_isMinute N xs) cut_L_isMinute K k) 42 L st S) ∧
  (∀ (K : Kt LT) (k : Nat) (L : xL) (st : List Value) (S : LT), nx (cod_L_isMinute N xs) cut_L_isMinute K (k + 1) 43 L st S = (O_int 2 1) (nx (cod_L_isMinute N xs) cut_L_isMinute K k) 43 L st S) ∧
  (∀ (K : Kt LT) (k : Nat) (L : xL) (st : List Value) (S : LT), nx (cod_L_isMinute N xs) cut_L_isMinute K (k + 1) 44 L st S = (O_callV 1 0 (fun S : LT => S.1) (fun S F => (F, S.2)) (spG yX6_station cX6_station 2 (some .int) 3 fpW)) (nx (cod_L_isMinute N xs) cut_L_isMinute K k) 44 L st S) ∧
  (∀ (K : Kt LT) (k : Nat) (L : xL) (st : List Value) (S : LT), nx (cod_L_isMinute N xs) cut_L_isMinute K (k + 1) 47 L st S = (O_iadd) (nx (cod_L_isMinute N xs) cut_L_isMinute K k) 47 L st S) ∧
  (∀ (K : Kt LT) (k : Nat) (L : xL) (st : List Value) (S : LT), nx (cod_L_isMinute N xs) cut_L_isMinute K (k + 1) 48 L st S = (O_icmp_ne 65) (nx (cod_L_isMinute N xs) cut_L_isMinute K k) 48 L st S) ∧
  (∀ (K : Kt LT) (k : Nat) (L : xL) (st : List Value) (S : LT), nx (cod_L_isMinute N xs) cut_L_isMinute K (k + 1) 51 L st S = (O_aload 0 1) (nx (cod_L_isMinute N xs) cut_L_isMinute K k) 51 L st S) ∧
  (∀ (K : Kt LT) (k : Nat) (L : xL) (st : List Value) (S : LT), nx (cod_L_isMinute N xs) cut_L_isMinute K (k + 1) 52 L st S = (O_int 0 1) (nx (cod_L_isMinute N xs) cut_L_isMinute K k) 52 L st S) ∧
  (∀ (K : Kt LT) (k : Nat) (L : xL) (st : List Value) (S : LT), nx (cod_L_isMinute N xs) cut_L_isMinute K (k + 1) 53 L st S = (O_callV 1 0 (fun S : LT => S.1) (fun S F => (F, S.2)) (spG yX6_station cX6_station 2 (some .int) 3 fpW)) (nx (cod_L_isMinute N xs) cut_L_isMinute K k) 53 L st S) ∧
  (∀ (K : Kt LT) (k : Nat) (L : xL) (st : List Value) (S : LT), nx (cod_L_isMinute N xs) cut_L_isMinute K (k + 1) 56 L st S = (O_iload 4 2) (nx (cod_L_isMinute N xs) cut_L_isMinute K k) 56 L st S) ∧
  (∀ (K : Kt LT) (k : Nat) (L : xL) (st : List Value) (S : LT), nx (cod_L_isMinute N xs) cut_L_isMinute K (k + 1) 58 L st S = (O_icmp_ne 65) (nx (cod_L_isMinute N xs) cut_L_isMinute K k) 58 L st S) ∧
  (∀ (K : Kt LT) (k : Nat) (L : xL) (st : List Value) (S : LT), nx (cod_L_isMinute N xs) cut_L_isMinute K (k + 1) 61 L st S = (O_int 1 1) (nx (cod_L_isMinute N xs) cut_L_isMinute K k) 61 L st S) ∧
  (∀ (K : Kt LT) (k : Nat) (L : xL) (st : List Value) (S : LT), nx (cod_L_isMinute N xs) cut_L_isMinute K (k + 1) 62 L st S = (O_goto 66) (nx (cod_L_isMinute N xs) cut_L_isMinute K k) 62 L st S) ∧
  (∀ (K : Kt LT) (k : Nat) (L : xL) (st : List Value) (S : LT), nx (cod_L_isMinute N xs) cut_L_isMinute K (k + 1) 65 L st S = K 65 L st S) ∧
  (∀ (K : Kt LT) (k : Nat) (L : xL) (st : List Value) (S : LT), nx1 (cod_L_isMinute N xs) cut_L_isMinute K k 65 L st S = (O_int 0 1) (nx (cod_L_isMinute N xs) cut_L_isMinute K k) 65 L st S) ∧
  (∀ (K : Kt LT) (k : Nat) (L : xL) (st : List Value) (S : LT), nx (cod_L_isMinute N xs) cut_L_isMinute K (k + 1) 66 L st S = (O_istore 5 2) (nx (cod_L_isMinute N xs) cut_L_isMinute K k) 66 L st S) ∧
  (∀ (K : Kt LT) (k : Nat) (L : xL) (st : List Value) (S : LT), nx (cod_L_isMinute N xs) cut_L_isMinute K (k + 1) 68 L st S = K 68 L st S) ∧
  (∀ (K : Kt LT) (k : Nat) (L : xL) (st : List Value) (S : LT), nx1 (cod_L_isMinute N xs) cut_L_isMinute K k 68 L st S = (O_iload 1 1) (nx (cod_L_isMinute N xs) cut_L_isMinute K k) 68 L st S) ∧
  (∀ (K : Kt LT) (k : Nat) (L : xL) (st : List Value) (S : LT), nx (cod_L_isMinute N xs) cut_L_isMinute K (k + 1) 69 L st S = (O_aload 0 1) (nx (cod_L_isMinute N xs) cut_L_isMinute K k) 69 L st S) ∧
  (∀ (K : Kt LT) (k : Nat) (L : xL) (st : List Value) (S : LT), nx (cod_L_isMinute N xs) cut_L_isMinute K (k + 1) 70 L st S = (O_int 2 1) (nx (cod_L_isMinute N xs) cut_L_isMinute K k) 70 L st S) ∧
  (∀ (K : Kt LT) (k : Nat) (L : xL) (st : List Value) (S : LT), nx (cod_L_isMinute N xs) cut_L_isMinute K (k + 1) 71 L st S = (O_callV 1 0 (fun S : LT => S.1) (fun S F => (F, S.2)) (spG yX6_station cX6_station 2 (some .int) 3 fpW)) (nx (cod_L_isMinute N xs) cut_L_isMinute K k) 71 L st S) ∧
  (∀ (K : Kt LT) (k : Nat) (L : xL) (st : List Value) (S : LT), nx (cod_L_isMinute N xs) cut_L_isMinute K (k + 1) 74 L st S = (O_isub) (nx (cod_L_isMinute N xs) cut_L_isMinute K k) 74 L st S) ∧
  (∀ (K : Kt LT) (k : Nat) (L : xL) (st : List Value) (S : LT), nx (cod_L_isMinute N xs) cut_L_isMinute K (k + 1) 75 L st S = (O_aload 0 1) (nx (cod_L_isMinute N xs) cut_L_isMinute K k) 75 L st S) ∧
  (∀ (K : Kt LT) (k : Nat) (L : xL) (st : List Value) (S : LT), nx (cod_L_isMinute N xs) cut_L_isMinute K (k + 1) 76 L st S = (O_int 34 2) (nx (cod_L_isMinute N xs) cut_L_isMinute K k) 76 L st S) ∧
  (∀ (K : Kt LT) (k : Nat) (L : xL) (st : List Value) (S : LT), nx (cod_L_isMinute N xs) cut_L_isMinute K (k + 1) 78 L st S = (O_callV 1 0 (fun S : LT => S.1) (fun S F => (F, S.2)) (spG yX6_count cX6_count 2 (some .int) 2 fpW)) (nx (cod_L_isMinute N xs) cut_L_isMinute K k) 78 L st S) ∧
  (∀ (K : Kt LT) (k : Nat) (L : xL) (st : List Value) (S : LT), nx (cod_L_isMinute N xs) cut_L_isMinute K (k + 1) 81 L st S = (O_iadd) (nx (cod_L_isMinute N xs) cut_L_isMinute K k) 81 L st S) ∧
  (∀ (K : Kt LT) (k : Nat) (L : xL) (st : List Value) (S : LT), nx (cod_L_isMinute N xs) cut_L_isMinute K (k + 1) 82 L st S = (O_istore 6 2) (nx (cod_L_isMinute N xs) cut_L_isMinute K k) 82 L st S) ∧
  (∀ (K : Kt LT) (k : Nat) (L : xL) (st : List Value) (S : LT), nx (cod_L_isMinute N xs) cut_L_isMinute K (k + 1) 84 L st S = K 84 L st S) ∧
  (∀ (K : Kt LT) (k : Nat) (L : xL) (st : List Value) (S : LT), nx1 (cod_L_isMinute N xs) cut_L_isMinute K k 84 L st S = (O_iload 5 2) (nx (cod_L_isMinute N xs) cut_L_isMinute K k) 84 L st S) ∧
  (∀ (K : Kt LT) (k : Nat) (L : xL) (st : List Value) (S : LT), nx (cod_L_isMinute N xs) cut_L_isMinute K (k + 1) 86 L st S = (O_if_eq 117) (nx (cod_L_isMinute N xs) cut_L_isMinute K k) 86 L st S) ∧
  (∀ (K : Kt LT) (k : Nat) (L : xL) (st : List Value) (S : LT), nx (cod_L_isMinute N xs) cut_L_isMinute K (k + 1) 89 L st S = (O_aload 0 1) (nx (cod_L_isMinute N xs) cut_L_isMinute K k) 89 L st S) ∧
  (∀ (K : Kt LT) (k : Nat) (L : xL) (st : List Value) (S : LT), nx (cod_L_isMinute N xs) cut_L_isMinute K (k + 1) 90 L st S = (O_int 1 1) (nx (cod_L_isMinute N xs) cut_L_isMinute K k) 90 L st S) ∧
  (∀ (K : Kt LT) (k : Nat) (L : xL) (st : List Value) (S : LT), nx (cod_L_isMinute N xs) cut_L_isMinute K (k + 1) 91 L st S = (O_callV 1 0 (fun S : LT => S.1) (fun S F => (F, S.2)) (spG yX6_station cX6_station 2 (some .int) 3 fpW)) (nx (cod_L_isMinute N xs) cut_L_isMinute K k) 91 L st S) ∧
  (∀ (K : Kt LT) (k : Nat) (L : xL) (st : List Value) (S : LT), nx (cod_L_isMinute N xs) cut_L_isMinute K (k + 1) 94 L st S = (O_iload 6 2) (nx (cod_L_isMinute N xs) cut_L_isMinute K k) 94 L st S) ∧
  (∀ (K : Kt LT) (k : Nat) (L : xL) (st : List Value) (S : LT), nx (cod_L_isMinute N xs) cut_L_isMinute K (k + 1) 96 L st S = (O_int 20000 3) (nx (cod_L_isMinute N xs) cut_L_isMinute K k) 96 L st S) ∧
  (∀ (K : Kt LT) (k : Nat) (L : xL) (st : List Value) (S : LT), nx (cod_L_isMinute N xs) cut_L_isMinute K (k + 1) 99 L st S = (O_icmp_le 108) (nx (cod_L_isMinute N xs) cut_L_isMinute K k) 99 L st S) ∧
  (∀ (K : Kt LT) (k : Nat) (L : xL) (st : List Value) (S : LT), nx (cod_L_isMinute N xs) cut_L_isMinute K (k + 1) 102 L st S = (O_int 20000 3) (nx (cod_L_isMinute N xs) cut_L_isMinute K k) 102 L st S) ∧
  (∀ (K : Kt LT) (k : Nat) (L : xL) (st : List Value) (S : LT), nx (cod_L_isMinute N xs) cut_L_isMinute K (k + 1) 105 L st S = (O_goto 110) (nx (cod_L_isMinute N xs) cut_L_isMinute K k) 105 L st S) ∧
  (∀ (K : Kt LT) (k : Nat) (L : xL) (st : List Value) (S : LT), nx (cod_L_isMinute N xs) cut_L_isMinute K (k + 1) 108 L st S = (O_iload 6 2) (nx (cod_L_isMinute N xs) cut_L_isMinute K k) 108 L st S) ∧
  (∀ (K : Kt LT) (k : Nat) (L : xL) (st : List Value) (S : LT), nx (cod_L_isMinute N xs) cut_L_isMinute K (k + 1) 110 L st S = (O_icmp_ne 117) (nx (cod_L_isMinute N xs) cut_L_isMinute K k) 110 L st S) ∧
  (∀ (K : Kt LT) (k : Nat) (L : xL) (st : List Value) (S : LT), nx (cod_L_isMinute N xs) cut_L_isMinute K (k + 1) 113 L st S = (O_int 1 1) (nx (cod_L_isMinute N xs) cut_L_isMinute K k) 113 L st S) ∧
  (∀ (K : Kt LT) (k : Nat) (L : xL) (st : List Value) (S : LT), nx (cod_L_isMinute N xs) cut_L_isMinute K (k + 1) 114 L st S = (O_goto 118) (nx (cod_L_isMinute N xs) cut_L_isMinute K k) 114 L st S) ∧
  (∀ (K : Kt LT) (k : Nat) (L : xL) (st : List Value) (S : LT), nx (cod_L_isMinute N xs) cut_L_isMinute K (k + 1) 117 L st S = K 117 L st S) ∧
  (∀ (K : Kt LT) (k : Nat) (L : xL) (st : List Value) (S : LT), nx1 (cod_L_isMinute N xs) cut_L_isMinute K k 117 L st S = (O_int 0 1) (nx (cod_L_isMinute N xs) cut_L_isMinute K k) 117 L st S) ∧
  (∀ (K : Kt LT) (k : Nat) (L : xL) (st : List Value) (S : LT), nx (cod_L_isMinute N xs) cut_L_isMinute K (k + 1) 118 L st S = (O_istore 5 2) (nx (cod_L_isMinute N xs) cut_L_isMinute K k) 118 L st S) ∧
  (∀ (K : Kt LT) (k : Nat) (L : xL) (st : List Value) (S : LT), nx (cod_L_isMinute N xs) cut_L_isMinute K (k + 1) 120 L st S = K 120 L st S) ∧
  (∀ (K : Kt LT) (k : Nat) (L : xL) (st : List Value) (S : LT), nx1 (cod_L_isMinute N xs) cut_L_isMinute K k 120 L st S = (O_iload 5 2) (nx (cod_L_isMinute N xs) cut_L_isMinute K k) 120 L st S) ∧
  (∀ (K : Kt LT) (k : Nat) (L : xL) (st : List Value) (S : LT), nx (cod_L_isMinute N xs) cut_L_isMinute K (k + 1) 122 L st S = (O_if_eq 164) (nx (cod_L_isMinute N xs) cut_L_isMinute K k) 122 L st S) ∧
  (∀ (K : Kt LT) (k : Nat) (L : xL) (st : List Value) (S : LT), nx (cod_L_isMinute N xs) cut_L_isMinute K (k + 1) 125 L st S = (O_aload 0 1) (nx (cod_L_isMinute N xs) cut_L_isMinute K k) 125 L st S) ∧
  (∀ (K : Kt LT) (k : Nat) (L : xL) (st : List Value) (S : LT), nx (cod_L_isMinute N xs) cut_L_isMinute K (k + 1) 126 L st S = (O_callV 0 0 (fun S : LT => S.1) (fun S F => (F, S.2)) (spG yX6_undo cX6_undo 1 (some .int) 3 fpW)) (nx (cod_L_isMinute N xs) cut_L_isMinute K k) 126 L st S) ∧
  (∀ (K : Kt LT) (k : Nat) (L : xL) (st : List Value) (S : LT), nx (cod_L_isMinute N xs) cut_L_isMinute K (k + 1) 129 L st S = (O_if_lt 164) (nx (cod_L_isMinute N xs) cut_L_isMinute K k) 129 L st S) ∧
  (∀ (K : Kt LT) (k : Nat) (L : xL) (st : List Value) (S : LT), nx (cod_L_isMinute N xs) cut_L_isMinute K (k + 1) 132 L st S = (O_aload 0 1) (nx (cod_L_isMinute N xs) cut_L_isMinute K k) 132 L st S) ∧
  (∀ (K : Kt LT) (k : Nat) (L : xL) (st : List Value) (S : LT), nx (cod_L_isMinute N xs) cut_L_isMinute K (k + 1) 133 L st S = (O_int 1 1) (nx (cod_L_isMinute N xs) cut_L_isMinute K k) 133 L st S) ∧
  (∀ (K : Kt LT) (k : Nat) (L : xL) (st : List Value) (S : LT), nx (cod_L_isMinute N xs) cut_L_isMinute K (k + 1) 134 L st S = (O_callV 1 0 (fun S : LT => S.1) (fun S F => (F, S.2)) (spG yX6_station cX6_station 2 (some .int) 3 fpW)) (nx (cod_L_isMinute N xs) cut_L_isMinute K k) 134 L st S) ∧
  (∀ (K : Kt LT) (k : Nat) (L : xL) (st : List Value) (S : LT), nx (cod_L_isMinute N xs) cut_L_isMinute K (k + 1) 137 L st S = (O_iload 1 1) (nx (cod_L_isMinute N xs) cut_L_isMinute K k) 137 L st S) ∧
  (∀ (K : Kt LT) (k : Nat) (L : xL) (st : List Value) (S : LT), nx (cod_L_isMinute N xs) cut_L_isMinute K (k + 1) 138 L st S = (O_icmp_ne 164) (nx (cod_L_isMinute N xs) cut_L_isMinute K k) 138 L st S) ∧
  (∀ (K : Kt LT) (k : Nat) (L : xL) (st : List Value) (S : LT), nx (cod_L_isMinute N xs) cut_L_isMinute K (k + 1) 141 L st S = (O_aload 0 1) (nx (cod_L_isMinute N xs) cut_L_isMinute K k) 141 L st S) ∧
  (∀ (K : Kt LT) (k : Nat) (L : xL) (st : List Value) (S : LT), nx (cod_L_isMinute N xs) cut_L_isMinute K (k + 1) 142 L st S = (O_int 0 1) (nx (cod_L_isMinute N xs) cut_L_isMinute K k) 142 L st S) ∧
  (∀ (K : Kt LT) (k : Nat) (L : xL) (st : List Value) (S : LT), nx (cod_L_isMinute N xs) cut_L_isMinute K (k + 1) 143 L st S = (O_callV 1 0 (fun S : LT => S.1) (fun S F => (F, S.2)) (spG yX6_station cX6_station 2 (some .int) 3 fpW)) (nx (cod_L_isMinute N xs) cut_L_isMinute K k) 143 L st S) ∧
  (∀ (K : Kt LT) (k : Nat) (L : xL) (st : List Value) (S : LT), nx (cod_L_isMinute N xs) cut_L_isMinute K (k + 1) 146 L st S = (O_iload 3 1) (nx (cod_L_isMinute N xs) cut_L_isMinute K k) 146 L st S) ∧
  (∀ (K : Kt LT) (k : Nat) (L : xL) (st : List Value) (S : LT), nx (cod_L_isMinute N xs) cut_L_isMinute K (k + 1) 147 L st S = (O_icmp_ne 164) (nx (cod_L_isMinute N xs) cut_L_isMinute K k) 147 L st S) ∧
  (∀ (K : Kt LT) (k : Nat) (L : xL) (st : List Value) (S : LT), nx (cod_L_isMinute N xs) cut_L_isMinute K (k + 1) 150 L st S = (O_aload 0 1) (nx (cod_L_isMinute N xs) cut_L_isMinute K k) 150 L st S) ∧
  (∀ (K : Kt LT) (k : Nat) (L : xL) (st : List Value) (S : LT), nx (cod_L_isMinute N xs) cut_L_isMinute K (k + 1) 151 L st S = (O_int 14 2) (nx (cod_L_isMinute N xs) cut_L_isMinute K k) 151 L st S) ∧
  (∀ (K : Kt LT) (k : Nat) (L : xL) (st : List Value) (S : LT), nx (cod_L_isMinute N xs) cut_L_isMinute K (k + 1) 153 L st S = (O_callV 1 0 (fun S : LT => S.1) (fun S F => (F, S.2)) (spG yX6_station cX6_station 2 (some .int) 3 fpW)) (nx (cod_L_isMinute N xs) cut_L_isMinute K k) 153 L st S) ∧
  (∀ (K : Kt LT) (k : Nat) (L : xL) (st : List Value) (S : LT), nx (cod_L_isMinute N xs) cut_L_isMinute K (k + 1) 156 L st S = (O_iload 2 1) (nx (cod_L_isMinute N xs) cut_L_isMinute K k) 156 L st S) ∧
  (∀ (K : Kt LT) (k : Nat) (L : xL) (st : List Value) (S : LT), nx (cod_L_isMinute N xs) cut_L_isMinute K (k + 1) 157 L st S = (O_icmp_ne 164) (nx (cod_L_isMinute N xs) cut_L_isMinute K k) 157 L st S) ∧
  (∀ (K : Kt LT) (k : Nat) (L : xL) (st : List Value) (S : LT), nx (cod_L_isMinute N xs) cut_L_isMinute K (k + 1) 160 L st S = (O_int 1 1) (nx (cod_L_isMinute N xs) cut_L_isMinute K k) 160 L st S) ∧
  (∀ (K : Kt LT) (k : Nat) (L : xL) (st : List Value) (S : LT), nx (cod_L_isMinute N xs) cut_L_isMinute K (k + 1) 161 L st S = (O_goto 165) (nx (cod_L_isMinute N xs) cut_L_isMinute K k) 161 L st S) ∧
  (∀ (K : Kt LT) (k : Nat) (L : xL) (st : List Value) (S : LT), nx (cod_L_isMinute N xs) cut_L_isMinute K (k + 1) 164 L st S = K 164 L st S) ∧
  (∀ (K : Kt LT) (k : Nat) (L : xL) (st : List Value) (S : LT), nx1 (cod_L_isMinute N xs) cut_L_isMinute K k 164 L st S = (O_int 0 1) (nx (cod_L_isMinute N xs) cut_L_isMinute K k) 164 L st S) ∧
  (∀ (K : Kt LT) (k : Nat) (L : xL) (st : List Value) (S : LT), nx (cod_L_isMinute N xs) cut_L_isMinute K (k + 1) 165 L st S = (O_zret) (nx (cod_L_isMinute N xs) cut_L_isMinute K k) 165 L st S) ∧
  (∀ (K : Kt LT) (k : Nat) (L : xL) (st : List Value) (S : LT), nx (cod_L_isMinute N xs) cut_L_isMinute K (k + 1) 100000 L st S = K 100000 L st S) := by
  repeat' apply And.intro
  all_goals (intros; rfl)
set_option maxRecDepth 100000 in
theorem mk_L_isMinute {N : Nat} {xs : Nat → Int32} {P P' : LT} {r : Option Value}  (body : ∀ E : En, CodOk E lW (cod_L_isMinute N xs) → Gd E lW 100000 [] r.toList P' → Gd E lW 0 [some (.ref 0), none, none, none, none, none, none] [] P) : ConT N xs yL_isMinute cL_isMinute 7 (some .boolean) 6 lW [.ref 0] P r P' :=
  ConT.of (by decide) ((lW_len P').trans (lW_len P).symm) rfl (Nat.le_of_ble_eq_true rfl) (fun E F G Z hr => body E (okc_L_isMinute F G Z) hr)
theorem one_mins (S : ST) : S.mins ((1 : Int32).toNatClampNeg) = S.minute := by
  have e : S.mins 0 = S := rfl
  rw [show (1 : Int32).toNatClampNeg = 0 + 1 from rfl, ST.mins_succ, e]
theorem rem_k {F : FT} (h : F.histOk) : ∃ j : Nat, j < 4 ∧ F.remember.k = j + 1 ∧ F.remember.hAt (F.remember.pAt j) = F.now := by
  obtain ⟨r1, r2, r3⟩ := hist_rem h
  by_cases c : F.k < 4
  · exact ⟨F.k, c, (r2 c).1, (r2 c).2.2⟩
  · exact ⟨3, by decide, (r3 c).1, (r3 c).2.2⟩
theorem sn_eq : (∀ (R : FT) (T : ST), (R.sNow T).k = R.k) ∧ (∀ (R : FT) (T : ST) (i : Nat), (R.sNow T).pAt i = R.pAt i) ∧ (∀ (R : FT) (T : ST), (R.sNow T).states = R.states) ∧ (∀ (R : FT) (T : ST) (i : Nat), (R.sNow T).hAt i = R.hAt i) := ⟨fun _ _ => rfl, fun _ _ _ => rfl, fun _ _ => rfl, fun _ _ _ => rfl⟩
theorem un_eq (S : FT) (x : Int32) (T : ST) : ((S.sStates x).sNow T).perm = S.perm ∧ ((S.sStates x).sNow T).h0 = S.h0 ∧ ((S.sStates x).sNow T).h1 = S.h1 ∧ ((S.sStates x).sNow T).h2 = S.h2 ∧ ((S.sStates x).sNow T).h3 = S.h3 ∧ ((S.sStates x).sNow T).O = S.O ∧ ((S.sStates x).sNow T).states = x ∧ ((S.sStates x).sNow T).now = T := ⟨rfl, rfl, rfl, rfl, rfl, rfl, rfl, rfl⟩
theorem und_eq (S : FT) : S.undo.perm = S.perm ∧ S.undo.h0 = S.h0 ∧ S.undo.h1 = S.h1 ∧ S.undo.h2 = S.h2 ∧ S.undo.h3 = S.h3 ∧ S.undo.O = S.O ∧ S.undo.states = S.states - 1 ∧ S.undo.now = S.hAt (S.pAt (S.k - 1)) := by
  unfold FT.undo
  exact un_eq S _ _
theorem mi_facts {k : Nat} {F G : FT} (h : Tw k F G) : F.now.minute.allSupplied = F.now.allSupplied + F.now.minute.supply ∧ F.now.minute.settings 14 = F.now.settings 14 ∧ F.now.minute.level = (if 20000 < F.now.level - F.now.minute.supply + F.now.settings 14 then 20000 else F.now.level - F.now.minute.supply + F.now.settings 14) ∧ 0 < F.now.minute.time ∧ ¬ 20000 < F.now.time + 1 ∧ F.now.minute.inv 0 := by
  obtain ⟨-, -, i, s, z, t, -⟩ := h
  obtain ⟨q1, q2, q3, q4, q5, q6, q7⟩ := ST.minute_qt F.now
  obtain ⟨w1, w2, w3, w4, w5⟩ := ST.tw_eq F.now
  have h0 := i.2.2.2.2.2.2.2.2.1
  have ht : (F.now.time + 1).toInt = F.now.time.toInt + 1 := add1 (by omega)
  refine ⟨?_, ?_, ?_, ?_, ?_, ST.minute_inv (ST.inv_le i (by omega))⟩
  · rw [q3, q2, w3, w2]
  · rw [q5, w5]
  · rw [q4, w4, q2, w2]
    unfold ST.newLevel
    generalize F.now.level - F.now.tick.sup + F.now.settings 14 = x
    by_cases c : x < 20000
    · rw [if_pos c, if_neg]
      rw [Int32.lt_iff_toInt_lt] at *
      omega
    · rw [if_neg c]
      by_cases d : 20000 < x
      · rw [if_pos d]
      · rw [if_neg d]
        apply Int32.toInt_inj.mp
        rw [Int32.lt_iff_toInt_lt] at *
        omega
  · rw [q1, w1, Int32.lt_iff_toInt_lt, ht, iz.1]
    omega
  · rw [Int32.lt_iff_toInt_lt, ht, iz.2.2.2.2.2.1]
    omega
theorem con_L_isMinute {N : Nat} {xs : Nat → Int32} {k : Nat} {F G : FT} (h : Tw k F G) : ∃ F' : FT, ConT N xs yL_isMinute cL_isMinute 7 (some .boolean) 6 lW [.ref 0] (F, G) (some (.int 1)) (F', G) := by
  obtain ⟨m1, m2, m3, m4, m5, m6⟩ := mi_facts h
  have hF := h.1
  have a1 : Con yX6_station cX6_station 2 (some .int) 3 fpW [.ref 0, .int 1] F (some (.int F.now.level)) F := con_X6_station F 1 hF
  have a14 : Con yX6_station cX6_station 2 (some .int) 3 fpW [.ref 0, .int 14] F (some (.int F.now.allSupplied)) F := con_X6_station F 14 hF
  have a0 : Con yX6_station cX6_station 2 (some .int) 3 fpW [.ref 0, .int 0] F (some (.int F.now.pressure)) F := con_X6_station F 0 hF
  have b1 := con_X6_foresee F 1 0 hF
  rw [show okFore 1 0 = true from by decide, if_neg (by decide), if_pos rfl, one_mins] at b1
  have b1 : Con yX6_foresee cX6_foresee 4 (some .int) 5 fpW [.ref 0, .int 1, .int 0] F (some (.int F.now.minute.pressure)) (F.sTrial F.now.minute) := b1
  generalize hF1 : F.sTrial F.now.minute = F1 at b1
  have g1 : F1.good := by rw [← hF1]; exact good_trial hF _
  have e1 : F1.now = F.now := by rw [← hF1]; exact tri_now _ _
  have b2 := con_X6_pass F1 1 g1
  rw [e1, show inR 1 1 240 = true from by decide, if_neg (by decide), if_neg m5, if_pos ⟨rfl, m5⟩, one_mins] at b2
  generalize hF2 : F1.remember.sNow F.now.minute = F2 at b2
  have g2 : F2.good := by rw [← hF2]; exact good_rem g1 m6
  have e2 : F2.now = F.now.minute := by rw [← hF2]; exact rem_now _ _
  have c14 : Con yX6_station cX6_station 2 (some .int) 3 fpW [.ref 0, .int 14] F2 (some (.int F2.now.allSupplied)) F2 := con_X6_station F2 14 g2
  have c2 : Con yX6_station cX6_station 2 (some .int) 3 fpW [.ref 0, .int 2] F2 (some (.int F2.now.supply)) F2 := con_X6_station F2 2 g2
  have c0 : Con yX6_station cX6_station 2 (some .int) 3 fpW [.ref 0, .int 0] F2 (some (.int F2.now.pressure)) F2 := con_X6_station F2 0 g2
  have c1 : Con yX6_station cX6_station 2 (some .int) 3 fpW [.ref 0, .int 1] F2 (some (.int F2.now.level)) F2 := con_X6_station F2 1 g2
  have c34 : Con yX6_count cX6_count 2 (some .int) 2 fpW [.ref 0, .int 34] F2 (some (.int (F2.now.settings 14))) F2 := con_X6_count F2 34 g2
  rw [e2] at c14 c2 c0 c1 c34
  have b3 := con_X6_undo F2 ⟨g2.1, g2.2.2.1⟩
  obtain ⟨j, j1, j2, j3⟩ := rem_k g1.1
  have ek : F2.k = j + 1 := by rw [← hF2, sn_eq.1]; exact j2
  have eh : F2.hAt (F2.pAt j) = F1.now := by
    rw [← hF2, sn_eq.2.1, sn_eq.2.2.2]
    exact j3
  have es : F2.states = nI (j + 1) := by rw [← ek]; exact g2.1.2.1
  have es0 : ¬ F2.states = 0 := by
    rw [es, show (0 : Int32) = nI 0 from rfl, nI_eq (by omega) (by omega)]
    omega
  rw [if_neg es0, if_neg es0] at b3
  have hneg : ¬ F2.states - 1 < 0 := by
    rw [es, show (1 : Int32) = nI 1 from rfl, pk_sub (by omega), Int32.lt_iff_toInt_lt, nI_toInt (by omega), iz.1]
    omega
  generalize hF3 : F2.undo = F3 at b3
  have e3 : F3.now = F.now := by
    rw [← hF3, (und_eq F2).2.2.2.2.2.2.2, ek, show j + 1 - 1 = j by omega, eh, e1]
  have g3 : F3.good := by
    obtain ⟨⟨p1, p2⟩, g22, g23, g24, g25⟩ := g2
    have q1 : F3.states = nI j := by
      rw [← hF3, (und_eq F2).2.2.2.2.2.2.1, es, show (1 : Int32) = nI 1 from rfl, pk_sub (by omega)]
      rfl
    have q2 : F3.k = j := by
      unfold FT.k
      rw [q1, nI_clamp (by omega)]
    have q3 : F3.perm = F2.perm ∧ F3.h0 = F2.h0 ∧ F3.h1 = F2.h1 ∧ F3.h2 = F2.h2 ∧ F3.h3 = F2.h3 ∧ F3.O = F2.O := by
      rw [← hF3]
      obtain ⟨u1, u2, u3, u4, u5, u6, -⟩ := und_eq F2
      exact ⟨u1, u2, u3, u4, u5, u6⟩
    refine ⟨⟨?_, ?_⟩, ?_, ?_, ?_, ?_⟩
    · unfold FT.pOk
      rw [q3.1]
      exact p1
    · rw [q2, q1]
      exact ⟨rfl, by omega, by omega⟩
    · rw [e3]; exact hF.2.1
    · rw [q3.2.1, q3.2.2.1, q3.2.2.2.1, q3.2.2.2.2.1]; exact g23
    · rw [q3.2.2.2.2.2]; exact g24
    · rw [q3.2.2.2.2.2]; exact g25
  have d14 : Con yX6_station cX6_station 2 (some .int) 3 fpW [.ref 0, .int 14] F3 (some (.int F3.now.allSupplied)) F3 := con_X6_station F3 14 g3
  have d0 : Con yX6_station cX6_station 2 (some .int) 3 fpW [.ref 0, .int 0] F3 (some (.int F3.now.pressure)) F3 := con_X6_station F3 0 g3
  have d1 : Con yX6_station cX6_station 2 (some .int) 3 fpW [.ref 0, .int 1] F3 (some (.int F3.now.level)) F3 := con_X6_station F3 1 g3
  rw [e3] at d14 d0 d1
  rw [m2] at c34
  refine ⟨F3, mk_L_isMinute (fun E C hr => ?_)⟩
  simp only [Option.toList_some] at hr
  have h120 : Gd E lW 120 [some (.ref 0), some (.int F.now.level), some (.int F.now.allSupplied), some (.int F.now.pressure), some (.int F.now.minute.pressure), some (.int 1), some (.int (F.now.level - F.now.minute.supply + F.now.settings 14))] [] (F2, G) := by
    (refine nx1_ok C cut_L_isMinute 1000 ?_; simp only [w_L_isMinute, ops_eq, xst_eq, call_eq, oK_eq, Option.toList_some, Option.toList_none, List.cons_append, List.nil_append, List.length_cons, List.length_nil, true_and, and_true, Nat.reduceAdd, O_g_eq, O_s_eq, O_t_eq, O_z2, spG_eq, se_L_up, l_eq, z_eq, false_implies, true_implies, implies_true, not_true_eq_false, not_false_eq_true, Nat.reduceLeDiff, Nat.zero_le])
    exact ⟨_, F3, b3, fun z => absurd z hneg, fun _ => ⟨_, F3, d1, fun z => absurd rfl z, fun _ => ⟨_, F3, d0, fun z => absurd rfl z, fun _ => ⟨_, F3, d14, fun z => absurd rfl z, fun _ => hr⟩⟩⟩⟩
  have h84 : Gd E lW 84 [some (.ref 0), some (.int F.now.level), some (.int F.now.allSupplied), some (.int F.now.pressure), some (.int F.now.minute.pressure), some (.int 1), some (.int (F.now.level - F.now.minute.supply + F.now.settings 14))] [] (F2, G) := by
    (refine nx1_ok C cut_L_isMinute 1000 ?_; simp only [w_L_isMinute, ops_eq, xst_eq, call_eq, oK_eq, Option.toList_some, Option.toList_none, List.cons_append, List.nil_append, List.length_cons, List.length_nil, true_and, and_true, Nat.reduceAdd, O_g_eq, O_s_eq, O_t_eq, O_z2, spG_eq, se_L_up, l_eq, z_eq, false_implies, true_implies, implies_true, not_true_eq_false, not_false_eq_true, Nat.reduceLeDiff, Nat.zero_le])
    exact ⟨_, F2, c1, fun z => ⟨fun q => absurd (m3.trans (if_neg z)) q, fun _ => h120⟩, fun z => ⟨fun q => absurd (m3.trans (if_pos z)) q, fun _ => h120⟩⟩
  have h68 : Gd E lW 68 [some (.ref 0), some (.int F.now.level), some (.int F.now.allSupplied), some (.int F.now.pressure), some (.int F.now.minute.pressure), some (.int 1), none] [] (F2, G) := by
    (refine nx1_ok C cut_L_isMinute 1000 ?_; simp only [w_L_isMinute, ops_eq, xst_eq, call_eq, oK_eq, Option.toList_some, Option.toList_none, List.cons_append, List.nil_append, List.length_cons, List.length_nil, true_and, and_true, Nat.reduceAdd, O_g_eq, O_s_eq, O_t_eq, O_z2, spG_eq, se_L_up, l_eq, z_eq, false_implies, true_implies, implies_true, not_true_eq_false, not_false_eq_true, Nat.reduceLeDiff, Nat.zero_le])
    exact ⟨_, F2, c2, _, F2, c34, h84⟩
  (refine nx_ok C (cuts := cut_L_isMinute) 1000 _ _ _ _ ?_; simp only [w_L_isMinute, ops_eq, xst_eq, call_eq, oK_eq, Option.toList_some, Option.toList_none, List.cons_append, List.nil_append, List.length_cons, List.length_nil, true_and, and_true, Nat.reduceAdd, O_g_eq, O_s_eq, O_t_eq, O_z2, spG_eq, se_L_up, l_eq, z_eq, false_implies, true_implies, implies_true, not_true_eq_false, not_false_eq_true, Nat.reduceLeDiff, Nat.zero_le])
  exact ⟨_, F, a1, _, F, a14, _, F, a0, _, F1, b1, _, F2, b2, fun z => absurd m4 z, fun _ => ⟨_, F2, c14, _, F2, c2, fun z => absurd m1 z, fun _ => ⟨_, F2, c0, fun z => absurd rfl z, fun _ => h68⟩⟩⟩
