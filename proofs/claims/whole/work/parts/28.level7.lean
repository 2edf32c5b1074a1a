/-! ===== the reference: the level, regulating, counting ===== -/
theorem stop_sDry (T : ST) (x p : Int32) : (T.sDry x).stop p = (T.stop p).sDry x := by
  unfold ST.stop
  have e : (T.sDry x).P = T.P := rfl
  rw [e]
  split <;> rfl
theorem ST.stop_keep (T : ST) (p : Int32) : (T.stop p).settings = T.settings ∧ (T.stop p).level = T.level ∧ (T.stop p).dry = T.dry ∧ (T.stop p).trips = T.trips := by
  unfold ST.stop
  split <;> exact ⟨rfl, rfl, rfl, rfl⟩
theorem dry_b {x : Int32} (h : b01 x) : (¬ x = 0) = (x = 1) := by
  rcases h with q | q <;> rw [q] <;> decide
def cod_X7_dryness : List (Nat × Op QT) := [(0, O_aload 0 1), (1, O_getf aW 7 0), (4, O_int 7 2), (6, O_aload 0 1), (7, O_getf aW 7 0), (10, O_int 2 1), (11, O_ald aW 0), (12, O_aload 0 1), (13, O_int 11 2), (15, O_callV 1 0 (fun S => S) (fun _ S' => S') sp_X7_setting), (18, O_icmp_ge 33), (21, O_aload 0 1), (22, O_getf aW 7 0), (25, O_int 7 2), (27, O_ald aW 0), (28, O_int 1 1), (29, O_iadd), (30, O_goto 34), (33, O_int 0 1), (34, O_asti aW aW_wi), (35, O_aload 0 1), (36, O_getf aW 7 0), (39, O_int 7 2), (41, O_ald aW 0), (42, O_aload 0 1), (43, O_int 13 2), (45, O_callV 1 0 (fun S => S) (fun _ S' => S') sp_X7_setting), (48, O_icmp_lt 116), (51, O_aload 0 1), (52, O_getf aW 7 0), (55, O_int 5 1), (56, O_ald aW 0), (57, O_if_ne 116), (60, O_aload 0 1), (61, O_getf aW 7 0), (64, O_int 5 1), (65, O_int 1 1), (66, O_asti aW aW_wi), (67, O_int 0 1), (68, O_istore 1 1), (69, O_iload 1 1), (70, O_aload 0 1), (71, O_getf aW 7 0), (74, O_int 14 2), (76, O_ald aW 0), (77, O_icmp_ge 99), (80, O_aload 0 1), (81, O_iload 1 1), (82, O_callV 1 0 (fun S => S) (fun _ S' => S') sp_X7_runs), (85, O_if_eq 93), (88, O_aload 0 1), (89, O_iload 1 1), (90, O_callV 1 0 (fun S => S) (fun _ S' => S') sp_X7_stop), (93, O_iinc 1 1), (96, O_goto 69), (99, O_aload 0 1), (100, O_getf aW 7 0), (103, O_int 6 2), (105, O_dup2), (106, O_ald aW 0), (107, O_int 1 1), (108, O_iadd), (109, O_asti aW aW_wi), (110, O_aload 0 1), (111, O_int 4 1), (112, O_int (-1) 1), (113, O_callV 2 0 (fun S => S) (fun _ S' => S') spa_X7_event), (116, O_aload 0 1), (117, O_getf aW 7 0), (120, O_int 2 1), (121, O_ald aW 0), (122, O_aload 0 1), (123, O_int 12 2), (125, O_callV 1 0 (fun S => S) (fun _ S' => S') sp_X7_setting), (128, O_icmp_lt 165), (131, O_aload 0 1), (132, O_getf aW 7 0), (135, O_int 5 1), (136, O_ald aW 0), (137, O_int 1 1), (138, O_icmp_ne 165), (141, O_aload 0 1), (142, O_getf aW 7 0), (145, O_int 6 2), (147, O_ald aW 0), (148, O_int 3 1), (149, O_icmp_ge 165), (152, O_aload 0 1), (153, O_getf aW 7 0), (156, O_int 5 1), (157, O_int 0 1), (158, O_asti aW aW_wi), (159, O_aload 0 1), (160, O_int 5 1), (161, O_int (-1) 1), (162, O_callV 2 0 (fun S => S) (fun _ S' => S') spa_X7_event), (165, O_vret)]
abbrev cut_X7_dryness : List Nat := [35, 69, 116]
set_option maxRecDepth 100000 in
theorem okc_X7_dryness {E : En} (F : Fx E RX7 cX7_dryness 2 4) (G : Fr E none) : CodOk E aW cod_X7_dryness := by
  unfold CodOk cod_X7_dryness
  refine List.forall_mem_cons.mpr ⟨ok_aload_n F dX7_dryness_0 rfl (by decide), ?_⟩
  refine List.forall_mem_cons.mpr ⟨ok_getf F flX7_7 dX7_dryness_1 (by decide), ?_⟩
  refine List.forall_mem_cons.mpr ⟨ok_bipush F dX7_dryness_4 (by decide) (by decide), ?_⟩
  refine List.forall_mem_cons.mpr ⟨ok_aload_n F dX7_dryness_6 rfl (by decide), ?_⟩
  refine List.forall_mem_cons.mpr ⟨ok_getf F flX7_7 dX7_dryness_7 (by decide), ?_⟩
  refine List.forall_mem_cons.mpr ⟨ok_iconst F dX7_dryness_10 (by decide) (by decide), ?_⟩
  refine List.forall_mem_cons.mpr ⟨ok_iald F dX7_dryness_11 (by decide), ?_⟩
  refine List.forall_mem_cons.mpr ⟨ok_aload_n F dX7_dryness_12 rfl (by decide), ?_⟩
  refine List.forall_mem_cons.mpr ⟨ok_bipush F dX7_dryness_13 (by decide) (by decide), ?_⟩
  refine List.forall_mem_cons.mpr ⟨ok_callV F spok_X7_setting (ln_id aW) rcv_aW (by decide +kernel) (by decide) dX7_dryness_15 (by decide), ?_⟩
  refine List.forall_mem_cons.mpr ⟨ok_icmp_ge F dX7_dryness_18 (by decide) (by decide) (by decide), ?_⟩
  refine List.forall_mem_cons.mpr ⟨ok_aload_n F dX7_dryness_21 rfl (by decide), ?_⟩
  refine List.forall_mem_cons.mpr ⟨ok_getf F flX7_7 dX7_dryness_22 (by decide), ?_⟩
  refine List.forall_mem_cons.mpr ⟨ok_bipush F dX7_dryness_25 (by decide) (by decide), ?_⟩
  refine List.forall_mem_cons.mpr ⟨ok_iald F dX7_dryness_27 (by decide), ?_⟩
  refine List.forall_mem_cons.mpr ⟨ok_iconst F dX7_dryness_28 (by decide) (by decide), ?_⟩
  refine List.forall_mem_cons.mpr ⟨ok_iadd F dX7_dryness_29 (by decide), ?_⟩
  refine List.forall_mem_cons.mpr ⟨ok_goto F dX7_dryness_30 (by decide) (by decide) (by decide), ?_⟩
  refine List.forall_mem_cons.mpr ⟨ok_iconst F dX7_dryness_33 (by decide) (by decide), ?_⟩
  refine List.forall_mem_cons.mpr ⟨ok_asti F aW_wok dX7_dryness_34 (by decide), ?_⟩
  refine List.forall_mem_cons.mpr ⟨ok_aload_n F dX7_dryness_35 rfl (by decide), ?_⟩
  refine List.forall_mem_cons.mpr ⟨ok_getf F flX7_7 dX7_dryness_36 (by decide), ?_⟩
  refine List.forall_mem_cons.mpr ⟨ok_bipush F dX7_dryness_39 (by decide) (by decide), ?_⟩
  refine List.forall_mem_cons.mpr ⟨ok_iald F dX7_dryness_41 (by decide), ?_⟩
  refine List.forall_mem_cons.mpr ⟨ok_aload_n F dX7_dryness_42 rfl (by decide), ?_⟩
  refine List.forall_mem_cons.mpr ⟨ok_bipush F dX7_dryness_43 (by decide) (by decide), ?_⟩
  refine List.forall_mem_cons.mpr ⟨ok_callV F spok_X7_setting (ln_id aW) rcv_aW (by decide +kernel) (by decide) dX7_dryness_45 (by decide), ?_⟩
  refine List.forall_mem_cons.mpr ⟨ok_icmp_lt F dX7_dryness_48 (by decide) (by decide) (by decide), ?_⟩
  refine List.forall_mem_cons.mpr ⟨ok_aload_n F dX7_dryness_51 rfl (by decide), ?_⟩
  refine List.forall_mem_cons.mpr ⟨ok_getf F flX7_7 dX7_dryness_52 (by decide), ?_⟩
  refine List.forall_mem_cons.mpr ⟨ok_iconst F dX7_dryness_55 (by decide) (by decide), ?_⟩
  refine List.forall_mem_cons.mpr ⟨ok_iald F dX7_dryness_56 (by decide), ?_⟩
  refine List.forall_mem_cons.mpr ⟨ok_if_ne F dX7_dryness_57 (by decide) (by decide) (by decide), ?_⟩
  refine List.forall_mem_cons.mpr ⟨ok_aload_n F dX7_dryness_60 rfl (by decide), ?_⟩
  refine List.forall_mem_cons.mpr ⟨ok_getf F flX7_7 dX7_dryness_61 (by decide), ?_⟩
  refine List.forall_mem_cons.mpr ⟨ok_iconst F dX7_dryness_64 (by decide) (by decide), ?_⟩
  refine List.forall_mem_cons.mpr ⟨ok_iconst F dX7_dryness_65 (by decide) (by decide), ?_⟩
  refine List.forall_mem_cons.mpr ⟨ok_asti F aW_wok dX7_dryness_66 (by decide), ?_⟩
  refine List.forall_mem_cons.mpr ⟨ok_iconst F dX7_dryness_67 (by decide) (by decide), ?_⟩
  refine List.forall_mem_cons.mpr ⟨ok_istore_n F dX7_dryness_68 rfl (by decide) (by decide), ?_⟩
  refine List.forall_mem_cons.mpr ⟨ok_iload_n F dX7_dryness_69 rfl (by decide), ?_⟩
  refine List.forall_mem_cons.mpr ⟨ok_aload_n F dX7_dryness_70 rfl (by decide), ?_⟩
  refine List.forall_mem_cons.mpr ⟨ok_getf F flX7_7 dX7_dryness_71 (by decide), ?_⟩
  refine List.forall_mem_cons.mpr ⟨ok_bipush F dX7_dryness_74 (by decide) (by decide), ?_⟩
  refine List.forall_mem_cons.mpr ⟨ok_iald F dX7_dryness_76 (by decide), ?_⟩
  refine List.forall_mem_cons.mpr ⟨ok_icmp_ge F dX7_dryness_77 (by decide) (by decide) (by decide), ?_⟩
  refine List.forall_mem_cons.mpr ⟨ok_aload_n F dX7_dryness_80 rfl (by decide), ?_⟩
  refine List.forall_mem_cons.mpr ⟨ok_iload_n F dX7_dryness_81 rfl (by decide), ?_⟩
  refine List.forall_mem_cons.mpr ⟨ok_callV F spok_X7_runs (ln_id aW) rcv_aW (by decide +kernel) (by decide) dX7_dryness_82 (by decide), ?_⟩
  refine List.forall_mem_cons.mpr ⟨ok_if_eq F dX7_dryness_85 (by decide) (by decide) (by decide), ?_⟩
  refine List.forall_mem_cons.mpr ⟨ok_aload_n F dX7_dryness_88 rfl (by decide), ?_⟩
  refine List.forall_mem_cons.mpr ⟨ok_iload_n F dX7_dryness_89 rfl (by decide), ?_⟩
  refine List.forall_mem_cons.mpr ⟨ok_callV F spok_X7_stop (ln_id aW) rcv_aW (by decide +kernel) (by decide) dX7_dryness_90 (by decide), ?_⟩
  refine List.forall_mem_cons.mpr ⟨ok_iinc F dX7_dryness_93 (by decide) (by decide) (by decide), ?_⟩
  refine List.forall_mem_cons.mpr ⟨ok_goto F dX7_dryness_96 (by decide) (by decide) (by decide), ?_⟩
  refine List.forall_mem_cons.mpr ⟨ok_aload_n F dX7_dryness_99 rfl (by decide), ?_⟩
  refine List.forall_mem_cons.mpr ⟨ok_getf F flX7_7 dX7_dryness_100 (by decide), ?_⟩
  refine List.forall_mem_cons.mpr ⟨ok_bipush F dX7_dryness_103 (by decide) (by decide), ?_⟩
  refine List.forall_mem_cons.mpr ⟨ok_dup2 F dX7_dryness_105 (by decide), ?_⟩
  refine List.forall_mem_cons.mpr ⟨ok_iald F dX7_dryness_106 (by decide), ?_⟩
  refine List.forall_mem_cons.mpr ⟨ok_iconst F dX7_dryness_107 (by decide) (by decide), ?_⟩
  refine List.forall_mem_cons.mpr ⟨ok_iadd F dX7_dryness_108 (by decide), ?_⟩
  refine List.forall_mem_cons.mpr ⟨ok_asti F aW_wok dX7_dryness_109 (by decide), ?_⟩
  refine List.forall_mem_cons.mpr ⟨ok_aload_n F dX7_dryness_110 rfl (by decide), ?_⟩
  refine List.forall_mem_cons.mpr ⟨ok_iconst F dX7_dryness_111 (by decide) (by decide), ?_⟩
  refine List.forall_mem_cons.mpr ⟨ok_iconst F dX7_dryness_112 (by decide) (by decide), ?_⟩
  refine List.forall_mem_cons.mpr ⟨ok_callV F spoka_X7_event (ln_id aW) rcv_aW (by decide +kernel) (by decide) dX7_dryness_113 (by decide), ?_⟩
  refine List.forall_mem_cons.mpr ⟨ok_aload_n F dX7_dryness_116 rfl (by decide), ?_⟩
  refine List.forall_mem_cons.mpr ⟨ok_getf F flX7_7 dX7_dryness_117 (by decide), ?_⟩
  refine List.forall_mem_cons.mpr ⟨ok_iconst F dX7_dryness_120 (by decide) (by decide), ?_⟩
  refine List.forall_mem_cons.mpr ⟨ok_iald F dX7_dryness_121 (by decide), ?_⟩
  refine List.forall_mem_cons.mpr ⟨ok_aload_n F dX7_dryness_122 rfl (by decide), ?_⟩
  refine List.forall_mem_cons.mpr ⟨ok_bipush F dX7_dryness_123 (by decide) (by decide), ?_⟩
  refine List.forall_mem_cons.mpr ⟨ok_callV F spok_X7_setting (ln_id aW) rcv_aW (by decide +kernel) (by decide) dX7_dryness_125 (by decide), ?_⟩
  refine List.forall_mem_cons.mpr ⟨ok_icmp_lt F dX7_dryness_128 (by decide) (by decide) (by decide), ?_⟩
  refine List.forall_mem_cons.mpr ⟨ok_aload_n F dX7_dryness_131 rfl (by decide), ?_⟩
  refine List.forall_mem_cons.mpr ⟨ok_getf F flX7_7 dX7_dryness_132 (by decide), ?_⟩
  refine List.forall_mem_cons.mpr ⟨ok_iconst F dX7_dryness_135 (by decide) (by decide), ?_⟩
  refine List.forall_mem_cons.mpr ⟨ok_iald F dX7_dryness_136 (by decide), ?_⟩
  refine List.forall_mem_cons.mpr ⟨ok_iconst F dX7_dryness_137 (by decide) (by decide), ?_⟩
  refine List.forall_mem_cons.mpr ⟨ok_icmp_ne F dX7_dryness_138 (by decide) (by decide) (by decide), ?_⟩
  refine List.forall_mem_cons.mpr ⟨ok_aload_n F dX7_dryness_141 rfl (by decide), ?_⟩
  refine List.forall_mem_cons.mpr ⟨ok_getf F flX7_7 dX7_dryness_142 (by decide), ?_⟩
  refine List.forall_mem_cons.mpr ⟨ok_bipush F dX7_dryness_145 (by decide) (by decide), ?_⟩
  refine List.forall_mem_cons.mpr ⟨ok_iald F dX7_dryness_147 (by decide), ?_⟩
  refine List.forall_mem_cons.mpr ⟨ok_iconst F dX7_dryness_148 (by decide) (by decide), ?_⟩
  refine List.forall_mem_cons.mpr ⟨ok_icmp_ge F dX7_dryness_149 (by decide) (by decide) (by decide), ?_⟩
  refine List.forall_mem_cons.mpr ⟨ok_aload_n F dX7_dryness_152 rfl (by decide), ?_⟩
  refine List.forall_mem_cons.mpr ⟨ok_getf F flX7_7 dX7_dryness_153 (by decide), ?_⟩
  refine List.forall_mem_cons.mpr ⟨ok_iconst F dX7_dryness_156 (by decide) (by decide), ?_⟩
  refine List.forall_mem_cons.mpr ⟨ok_iconst F dX7_dryness_157 (by decide) (by decide), ?_⟩
  refine List.forall_mem_cons.mpr ⟨ok_asti F aW_wok dX7_dryness_158 (by decide), ?_⟩
  refine List.forall_mem_cons.mpr ⟨ok_aload_n F dX7_dryness_159 rfl (by decide), ?_⟩
  refine List.forall_mem_cons.mpr ⟨ok_iconst F dX7_dryness_160 (by decide) (by decide), ?_⟩
  refine List.forall_mem_cons.mpr ⟨ok_iconst F dX7_dryness_161 (by decide) (by decide), ?_⟩
  refine List.forall_mem_cons.mpr ⟨ok_callV F spoka_X7_event (ln_id aW) rcv_aW (by decide +kernel) (by decide) dX7_dryness_162 (by decide), ?_⟩
  refine List.forall_mem_cons.mpr ⟨ok_vret F G dX7_dryness_165 (by decide), ?_⟩
  exact fun _ h => absurd h List.not_mem_nil
set_option maxRecDepth 100000 in
theorem w_X7_dryness : (∀ (K : Kt QT) (n : Nat) (L : xL) (st : List Value) (S : QT), nx cod_X7_dryness cut_X7_dryness K (n + 1) 0 L st S = (O_aload 0 1) (nx cod_X7_dryness cut_X7_dryness K n) 0 L st S) ∧
  (∀ (K : Kt QT) (n : Nat) (L : xL) (st : List Value) (S : QT), nx cod_X7_dryness cut_X7_dryness K (n + 1) 1 L st S = (O_getf aW 7 0) (nx cod_X7_dryness cut_X7_dryness K n) 1 L st S) ∧
  (∀ (K : Kt QT) (n : Nat) (L : xL) (st : List Value) (S : QT), nx cod_X7_dryness cut_X7_dryness K (n + 1) 4 L st S = (O_int 7 2) (nx cod_X7_dryness cut_X7_dryness K n) 4 L st S) ∧
  (∀ (K : Kt QT) (n : Nat) (L : xL) (st : List Value) (S : QT), nx cod_X7_dryness cut_X7_dryness K (n + 1) 6 L st S = (O_aload 0 1) (nx cod_X7_dryness cut_X7_dryness K n) 6 L st S) ∧
  (∀ (K : Kt QT) (n : Nat) (L : xL) (st : List Value) (S : QT), nx cod_X7_dryness cut_X7_dryness K (n + 1) 7 L st S = (O_getf aW 7 0) (nx cod_X7_dryness cut_X7_dryness K n) 7 L st S) ∧
  (∀ (K : Kt QT) (n : Nat) (L : xL) (st : List Value) (S : QT), nx cod_X7_dryness cut_X7_dryness K (n + 1) 10 L st S = (O_int 2 1) (nx cod_X7_dryness cut_X7_dryness K n) 10 L st S) ∧
  (∀ (K : Kt QT) (n : Nat) (L : xL) (st : List Value) (S : QT), nx cod_X7_dryness cut_X7_dryness K (n + 1) 11 L st S = (O_ald aW 0) (nx cod_X7_dryness cut_X7_dryness K n) 11 L st S) ∧
  (∀ (K : Kt QT) (n : Nat) (L : xL) (st : List Value) (S : QT), nx cod_X7_dryness cut_X7_dryness K (n + 1) 12 L st S = (O_aload 0 1) (nx cod_X7_dryness cut_X7_dryness K n) 12 L st S) ∧
  (∀ (K : Kt QT) (n : Nat) (L : xL) (st : List Value) (S : QT), nx cod_X7_dryness cut_X7_dryness K (n + 1) 13 L st S = (O_int 11 2) (nx cod_X7_dryness cut_X7_dryness K n) 13 L st S) ∧
  (∀ (K : Kt QT) (n : Nat) (L : xL) (st : List Value) (S : QT), nx cod_X7_dryness cut_X7_dryness K (n + 1) 15 L st S = (O_callV 1 0 (fun S => S) (fun _ S' => S') sp_X7_setting) (nx cod_X7_dryness cut_X7_dryness K n) 15 L st S) ∧
  (∀ (K : Kt QT) (n : Nat) (L : xL) (st : List Value) (S : QT), nx cod_X7_dryness cut_X7_dryness K (n + 1) 18 L st S = (O_icmp_ge 33) (nx cod_X7_dryness cut_X7_dryness K n) 18 L st S) ∧
  (∀ (K : Kt QT) (n : Nat) (L : xL) (st : List Value) (S : QT), nx cod_X7_dryness cut_X7_dryness K (n + 1) 21 L st S = (O_aload 0 1) (nx cod_X7_dryness cut_X7_dryness K n) 21 L st S) ∧
  (∀ (K : Kt QT) (n : Nat) (L : xL) (st : List Value) (S : QT), nx cod_X7_dryness cut_X7_dryness K (n + 1) 22 L st S = (O_getf aW 7 0) (nx cod_X7_dryness cut_X7_dryness K n) 22 L st S) ∧
  (∀ (K : Kt QT) (n : Nat) (L : xL) (st : List Value) (S : QT), nx cod_X7_dryness cut_X7_dryness K (n + 1) 25 L st S = (O_int 7 2) (nx cod_X7_dryness cut_X7_dryness K n) 25 L st S) ∧
  (∀ (K : Kt QT) (n : Nat) (L : xL) (st : List Value) (S : QT), nx cod_X7_dryness cut_X7_dryness K (n + 1) 27 L st S = (O_ald aW 0) (nx cod_X7_dryness cut_X7_dryness K n) 27 L st S) ∧
  (∀ (K : Kt QT) (n : Nat) (L : xL) (st : List Value) (S : QT), nx cod_X7_dryness cut_X7_dryness K (n + 1) 28 L st S = (O_int 1 1) (nx cod_X7_dryness cut_X7_dryness K n) 28 L st S) ∧
  (∀ (K : Kt QT) (n : Nat) (L : xL) (st : List Value) (S : QT), nx cod_X7_dryness cut_X7_dryness K (n + 1) 29 L st S = (O_iadd) (nx cod_X7_dryness cut_X7_dryness K n) 29 L st S) ∧
  (∀ (K : Kt QT) (n : Nat) (L : xL) (st : List Value) (S : QT), nx cod_X7_dryness cut_X7_dryness K (n + 1) 30 L st S = (O_goto 34) (nx cod_X7_dryness cut_X7_dryness K n) 30 L st S) ∧
  (∀ (K : Kt QT) (n : Nat) (L : xL) (st : List Value) (S : QT), nx cod_X7_dryness cut_X7_dryness K (n + 1) 33 L st S = (O_int 0 1) (nx cod_X7_dryness cut_X7_dryness K n) 33 L st S) ∧
  (∀ (K : Kt QT) (n : Nat) (L : xL) (st : List Value) (S : QT), nx cod_X7_dryness cut_X7_dryness K (n + 1) 34 L st S = (O_asti aW aW_wi) (nx cod_X7_dryness cut_X7_dryness K n) 34 L st S) ∧
  (∀ (K : Kt QT) (n : Nat) (L : xL) (st : List Value) (S : QT), nx cod_X7_dryness cut_X7_dryness K (n + 1) 35 L st S = K 35 L st S) ∧
  (∀ (K : Kt QT) (n : Nat) (L : xL) (st : List Value) (S : QT), nx1 cod_X7_dryness cut_X7_dryness K n 35 L st S = (O_aload 0 1) (nx cod_X7_dryness cut_X7_dryness K n) 35 L st S) ∧
  (∀ (K : Kt QT) (n : Nat) (L : xL) (st : List Value) (S : QT), nx cod_X7_dryness cut_X7_dryness K (n + 1) 36 L st S = (O_getf aW 7 0) (nx cod_X7_dryness cut_X7_dryness K n) 36 L st S) ∧
  (∀ (K : Kt QT) (n : Nat) (L : xL) (st : List Value) (S : QT), nx cod_X7_dryness cut_X7_dryness K (n + 1) 39 L st S = (O_int 7 2) (nx cod_X7_dryness cut_X7_dryness K n) 39 L st S) ∧
  (∀ (K : Kt QT) (n : Nat) (L : xL) (st : List Value) (S : QT), nx cod_X7_dryness cut_X7_dryness K (n + 1) 41 L st S = (O_ald aW 0) (nx cod_X7_dryness cut_X7_dryness K n) 41 L st S) ∧
  (∀ (K : Kt QT) (n : Nat) (L : xL) (st : List Value) (S : QT), nx cod_X7_dryness cut_X7_dryness K (n + 1) 42 L st S = (O_aload 0 1) (nx cod_X7_dryness cut_X7_dryness K n) 42 L st S) ∧
  (∀ (K : Kt QT) (n : Nat) (L : xL) (st : List Value) (S : QT), nx cod_X7_dryness cut_X7_dryness K (n + 1) 43 L st S = (O_int 13 2) (nx cod_X7_dryness cut_X7_dryness K n) 43 L st S) ∧
  (∀ (K : Kt QT) (n : Nat) (L : xL) (st : List Value) (S : QT), nx cod_X7_dryness cut_X7_dryness K (n + 1) 45 L st S = (O_callV 1 0 (fun S => S) (fun _ S' => S') sp_X7_setting) (nx cod_X7_dryness cut_X7_dryness K n) 45 L st S) ∧
  (∀ (K : Kt QT) (n : Nat) (L : xL) (st : List Value) (S : QT), nx cod_X7_dryness cut_X7_dryness K (n + 1) 48 L st S = (O_icmp_lt 116) (nx cod_X7_dryness cut_X7_dryness K n) 48 L st S) ∧
  (∀ (K : Kt QT) (n : Nat) (L : xL) (st : List Value) (S : QT), nx cod_X7_dryness cut_X7_dryness K (n + 1) 51 L st S = (O_aload 0 1) (nx cod_X7_dryness cut_X7_dryness K n) 51 L st S) ∧
  (∀ (K : Kt QT) (n : Nat) (L : xL) (st : List Value) (S : QT), nx cod_X7_dryness cut_X7_dryness K (n + 1) 52 L st S = (O_getf aW 7 0) (nx cod_X7_dryness cut_X7_dryness K n) 52 L st S) ∧
  (∀ (K : Kt QT) (n : Nat) (L : xL) (st : List Value) (S : QT), nx cod_X7_dryness cut_X7_dryness K (n + 1) 55 L st S = (O_int 5 1) (nx cod_X7_dryness cut_X7_dryness K n) 55 L st S) ∧
  (∀ (K : Kt QT) (n : Nat) (L : xL) (st : List Value) (S : QT), nx cod_X7_dryness cut_X7_dryness K (n + 1) 56 L st S = (O_ald aW 0) (nx cod_X7_dryness cut_X7_dryness K n) 56 L st S) ∧
  (∀ (K : Kt QT) (n : Nat) (L : xL) (st : List Value) (S : QT), nx cod_X7_dryness cut_X7_dryness K (n + 1) 57 L st S = (O_if_ne 116) (nx cod_X7_dryness cut_X7_dryness K n) 57 L st S) ∧
  (∀ (K : Kt QT) (n : Nat) (L : xL) (st : List Value) (S : QT), nx cod_X7_dryness cut_X7_dryness K (n + 1) 60 L st S = (O_aload 0 1) (nx cod_X7_dryness cut_X7_dryness K n) 60 L st S) ∧
  (∀ (K : Kt QT) (n : Nat) (L : xL) (st : List Value) (S : QT), nx cod_X7_dryness cut_X7_dryness K (n + 1) 61 L st S = (O_getf aW 7 0) (nx cod_X7_dryness cut_X7_dryness K n) 61 L st S) ∧
  (∀ (K : Kt QT) (n : Nat) (L : xL) (st : List Value) (S : QT), nx cod_X7_dryness cut_X7_dryness K (n + 1) 64 L st S = (O_int 5 1) (nx cod_X7_dryness cut_X7_dryness K n) 64 L st S) ∧
  (∀ (K : Kt QT) (n : Nat) (L : xL) (st : List Value) (S : QT), nx cod_X7_dryness cut_X7_dryness K (n + 1) 65 L st S = (O_int 1 1) (nx cod_X7_dryness cut_X7_dryness K n) 65 L st S) ∧
  (∀ (K : Kt QT) (n : Nat) (L : xL) (st : List Value) (S : QT), nx cod_X7_dryness cut_X7_dryness K (n + 1) 66 L st S = (O_asti aW aW_wi) (nx cod_X7_dryness cut_X7_dryness K n) 66 L st S) ∧
  (∀ (K : Kt QT) (n : Nat) (L : xL) (st : List Value) (S : QT), nx cod_X7_dryness cut_X7_dryness K (n + 1) 67 L st S = (O_int 0 1) (nx cod_X7_dryness cut_X7_dryness K n) 67 L st S) ∧
  (∀ (K : Kt QT) (n : Nat) (L : xL) (st : List Value) (S : QT), nx cod_X7_dryness cut_X7_dryness K (n + 1) 68 L st S = (O_istore 1 1) (nx cod_X7_dryness cut_X7_dryness K n) 68 L st S) ∧
  (∀ (K : Kt QT) (n : Nat) (L : xL) (st : List Value) (S : QT), nx cod_X7_dryness cut_X7_dryness K (n + 1) 69 L st S = K 69 L st S) ∧
  (∀ (K : Kt QT) (n : Nat) (L : xL) (st : List Value) (S : QT), nx1 cod_X7_dryness cut_X7_dryness K n 69 L st S = (O_iload 1 1) (nx cod_X7_dryness cut_X7_dryness K n) 69 L st S) ∧
  (∀ (K : Kt QT) (n : Nat) (L : xL) (st : List Value) (S : QT), nx cod_X7_dryness cut_X7_dryness K (n + 1) 70 L st S = (O_aload 0 1) (nx cod_X7_dryness cut_X7_dryness K n) 70 L st S) ∧
  (∀ (K : Kt QT) (n : Nat) (L : xL) (st : List Value) (S : QT), nx cod_X7_dryness cut_X7_dryness K (n + 1) 71 L st S = (O_getf aW 7 0) (nx cod_X7_dryness cut_X7_dryness K n) 71 L st S) ∧
  (∀ (K : Kt QT) (n : Nat) (L : xL) (st : List Value) (S : QT), nx cod_X7_dryness cut_X7_dryness K (n + 1) 74 L st S = (O_int 14 2) (nx cod_X7_dryness cut_X7_dryness K n) 74 L st S) ∧
  (∀ (K : Kt QT) (n : Nat) (L : xL) (st : List Value) (S : QT), nx cod_X7_dryness cut_X7_dryness K (n + 1) 76 L st S = (O_ald aW 0) (nx cod_X7_dryness cut_X7_dryness K n) 76 L st S) ∧
  (∀ (K : Kt QT) (n : Nat) (L : xL) (st : List Value) (S : QT), nx cod_X7_dryness cut_X7_dryness K (n + 1) 77 L st S = (O_icmp_ge 99) (nx cod_X7_dryness cut_X7_dryness K n) 77 L st S) ∧
  (∀ (K : Kt QT) (n : Nat) (L : xL) (st : List Value) (S : QT), nx cod_X7_dryness cut_X7_dryness K (n + 1) 80 L st S = (O_aload 0 1) (nx cod_X7_dryness cut_X7_dryness K n) 80 L st S) ∧
  (∀ (K : Kt QT) (n : Nat) (L : xL) (st : List Value) (S : QT), nx cod_X7_dryness cut_X7_dryness K (n + 1) 81 L st S = (O_iload 1 1) (nx cod_X7_dryness cut_X7_dryness K n) 81 L st S) ∧
  (∀ (K : Kt QT) (n : Nat) (L : xL) (st : List Value) (S : QT), nx cod_X7_dryness cut_X7_dryness K (n + 1) 82 L st S = (O_callV 1 0 (fun S => S) (fun _ S' => S') sp_X7_runs) (nx cod_X7_dryness cut_X7_dryness K n) 82 L st S) ∧
  (∀ (K : Kt QT) (n : Nat) (L : xL) (st : List Value) (S : QT), nx cod_X7_dryness cut_X7_dryness K (n + 1) 85 L st S = (O_if_eq 93) (nx cod_X7_dryness cut_X7_dryness K n) 85 L st S) ∧
  (∀ (K : Kt QT) (n : Nat) (L : xL) (st : List Value) (S : QT), nx cod_X7_dryness cut_X7_dryness K (n + 1) 88 L st S = (O_aload 0 1) (nx cod_X7_dryness cut_X7_dryness K n) 88 L st S) ∧
  (∀ (K : Kt QT) (n : Nat) (L : xL) (st : List Value) (S : QT), nx cod_X7_dryness cut_X7_dryness K (n + 1) 89 L st S = (O_iload 1 1) (nx cod_X7_dryness cut_X7_dryness K n) 89 L st S) ∧
  (∀ (K : Kt QT) (n : Nat) (L : xL) (st : List Value) (S : QT), nx cod_X7_dryness cut_X7_dryness K (n + 1) 90 L st S = (O_callV 1 0 (fun S => S) (fun _ S' => S') sp_X7_stop) (nx cod_X7_dryness cut_X7_dryness K n) 90 L st S) ∧
  (∀ (K : Kt QT) (n : Nat) (L : xL) (st : List Value) (S : QT), nx cod_X7_dryness cut_X7_dryness K (n + 1) 93 L st S = (O_iinc 1 1) (nx cod_X7_dryness cut_X7_dryness K n) 93 L st S) ∧
  (∀ (K : Kt QT) (n : Nat) (L : xL) (st : List Value) (S : QT), nx cod_X7_dryness cut_X7_dryness K (n + 1) 96 L st S = (O_goto 69) (nx cod_X7_dryness cut_X7_dryness K n) 96 L st S) ∧
  (∀ (K : Kt QT) (n : Nat) (L : xL) (st : List Value) (S : QT), nx cod_X7_dryness cut_X7_dryness K (n + 1) 99 L st S = (O_aload 0 1) (nx cod_X7_dryness cut_X7_dryness K n) 99 L st S) ∧
  (∀ (K : Kt QT) (n : Nat) (L : xL) (st : List Value) (S : QT), nx cod_X7_dryness cut_X7_dryness K (n + 1) 100 L st S = (O_getf aW 7 0) (nx cod_X7_dryness cut_X7_dryness K n) 100 L st S) ∧
  (∀ (K : Kt QT) (n : Nat) (L : xL) (st : List Value) (S : QT), nx cod_X7_dryness cut_X7_dryness K (n + 1) 103 L st S = (O_int 6 2) (nx cod_X7_dryness cut_X7_dryness K n) 103 L st S) ∧
  (∀ (K : Kt QT) (n : Nat) (L : xL) (st : List Value) (S : QT), nx cod_X7_dryness cut_X7_dryness K (n + 1) 105 L st S = (O_dup2) (nx cod_X7_dryness cut_X7_dryness K n) 105 L st S) ∧
  (∀ (K : Kt QT) (n : Nat) (L : xL) (st : List Value) (S : QT), nx cod_X7_dryness cut_X7_dryness K (n + 1) 106 L st S = (O_ald aW 0) (nx cod_X7_dryness cut_X7_dryness K n) 106 L st S) ∧
  (∀ (K : Kt QT) (n : Nat) (L : xL) (st : List Value) (S : QT), nx cod_X7_dryness cut_X7_dryness K (n + 1) 107 L st S = (O_int 1 1) (nx cod_X7_dryness cut_X7_dryness K n) 107 L st S) ∧
  (∀ (K : Kt QT) (n : Nat) (L : xL) (st : List Value) (S : QT), nx cod_X7_dryness cut_X7_dryness K (n + 1) 108 L st S = (O_iadd) (nx cod_X7_dryness cut_X7_dryness K n) 108 L st S) ∧
  (∀ (K : Kt QT) (n : Nat) (L : xL) (st : List Value) (S : QT), nx cod_X7_dryness cut_X7_dryness K (n + 1) 109 L st S = (O_asti aW aW_wi) (nx cod_X7_dryness cut_X7_dryness K n) 109 L st S) ∧
  (∀ (K : Kt QT) (n : Nat) (L : xL) (st : List Value) (S : QT), nx cod_X7_dryness cut_X7_dryness K (n + 1) 110 L st S = (O_aload 0 1) (nx cod_X7_dryness cut_X7_dryness K n) 110 L st S) ∧
  (∀ (K : Kt QT) (n : Nat) (L : xL) (st : List Value) (S : QT), nx cod_X7_dryness cut_X7_dryness K (n + 1) 111 L st S = (O_int 4 1) (nx cod_X7_dryness cut_X7_dryness K n) 111 L st S) ∧
  (∀ (K : Kt QT) (n : Nat) (L : xL) (st : List Value) (S : QT), nx cod_X7_dryness cut_X7_dryness K (n + 1) 112 L st S = (O_int (-1) 1) (nx cod_X7_dryness cut_X7_dryness K n) 112 L st S) ∧
  (∀ (K : Kt QT) (n : Nat) (L : xL) (st : List Value) (S : QT), nx cod_X7_dryness cut_X7_dryness K (n + 1) 113 L st S = (O_callV 2 0 (fun S => S) (fun _ S' => S') spa_X7_event) (nx cod_X7_dryness cut_X7_dryness K n) 113 L st S) ∧
  (∀ (K : Kt QT) (n : Nat) (L : xL) (st : List Value) (S : QT), nx cod_X7_dryness cut_X7_dryness K (n + 1) 116 L st S = K 116 L st S) ∧
  (∀ (K : Kt QT) (n : Nat) (L : xL) (st : List Value) (S : QT), nx1 cod_X7_dryness cut_X7_dryness K n 116 L st S = (O_aload 0 1) (nx cod_X7_dryness cut_X7_dryness K n) 116 L st S) ∧
  (∀ (K : Kt QT) (n : Nat) (L : xL) (st : List Value) (S : QT), nx cod_X7_dryness cut_X7_dryness K (n + 1) 117 L st S = (O_getf aW 7 0) (nx cod_X7_dryness cut_X7_dryness K n) 117 L st S) ∧
  (∀ (K : Kt QT) (n : Nat) (L : xL) (st : List Value) (S : QT), nx cod_X7_dryness cut_X7_dryness K (n + 1) 120 L st S = (O_int 2 1) (nx cod_X7_dryness cut_X7_dryness K n) 120 L st S) ∧
  (∀ (K : Kt QT) (n : Nat) (L : xL) (st : List Value) (S : QT), nx cod_X7_dryness cut_X7_dryness K (n + 1) 121 L st S = (O_ald aW 0) (nx cod_X7_dryness cut_X7_dryness K n) 121 L st S) ∧
  (∀ (K : Kt QT) (n : Nat) (L : xL) (st : List Value) (S : QT), nx cod_X7_dryness cut_X7_dryness K (n + 1) 122 L st S = (O_aload 0 1) (nx cod_X7_dryness cut_X7_dryness K n) 122 L st S) ∧
  (∀ (K : Kt QT) (n : Nat) (L : xL) (st : List Value) (S : QT), nx cod_X7_dryness cut_X7_dryness K (n + 1) 123 L st S = (O_int 12 2) (nx cod_X7_dryness cut_X7_dryness K n) 123 L st S) ∧
  (∀ (K : Kt QT) (n : Nat) (L : xL) (st : List Value) (S : QT), nx cod_X7_dryness cut_X7_dryness K (n + 1) 125 L st S = (O_callV 1 0 (fun S => S) (fun _ S' => S') sp_X7_setting) (nx cod_X7_dryness cut_X7_dryness K n) 125 L st S) ∧
  (∀ (K : Kt QT) (n : Nat) (L : xL) (st : List Value) (S : QT), nx cod_X7_dryness cut_X7_dryness K (n + 1) 128 L st S = (O_icmp_lt 165) (nx cod_X7_dryness cut_X7_dryness K n) 128 L st S) ∧
  (∀ (K : Kt QT) (n : Nat) (L : xL) (st : List Value) (S : QT), nx cod_X7_dryness cut_X7_dryness K (n + 1) 131 L st S = (O_aload 0 1) (nx cod_X7_dryness cut_X7_dryness K n) 131 L st S) ∧
  (∀ (K : Kt QT) (n : Nat) (L : xL) (st : List Value) (S : QT), nx cod_X7_dryness cut_X7_dryness K (n + 1) 132 L st S = (O_getf aW 7 0) (nx cod_X7_dryness cut_X7_dryness K n) 132 L st S) ∧
  (∀ (K : Kt QT) (n : Nat) (L : xL) (st : List Value) (S : QT), nx cod_X7_dryness cut_X7_dryness K (n + 1) 135 L st S = (O_int 5 1) (nx cod_X7_dryness cut_X7_dryness K n) 135 L st S) ∧
  (∀ (K : Kt QT) (n : Nat) (L : xL) (st : List Value) (S : QT), nx cod_X7_dryness cut_X7_dryness K (n + 1) 136 L st S = (O_ald aW 0) (nx cod_X7_dryness cut_X7_dryness K n) 136 L st S) ∧
  (∀ (K : Kt QT) (n : Nat) (L : xL) (st : List Value) (S : QT), nx cod_X7_dryness cut_X7_dryness K (n + 1) 137 L st S = (O_int 1 1) (nx cod_X7_dryness cut_X7_dryness K n) 137 L st S) ∧
  (∀ (K : Kt QT) (n : Nat) (L : xL) (st : List Value) (S : QT), nx cod_X7_dryness cut_X7_dryness K (n + 1) 138 L st S = (O_icmp_ne 165) (nx cod_X7_dryness cut_X7_dryness K n) 138 L st S) ∧
  (∀ (K : Kt QT) (n : Nat) (L : xL) (st : List Value) (S : QT), nx cod_X7_dryness cut_X7_dryness K (n + 1) 141 L st S = (O_aload 0 1) (nx cod_X7_dryness cut_X7_dryness K n) 141 L st S) ∧
  (∀ (K : Kt QT) (n : Nat) (L : xL) (st : List Value) (S : QT), nx cod_X7_dryness cut_X7_dryness K (n + 1) 142 L st S = (O_getf aW 7 0) (nx cod_X7_dryness cut_X7_dryness K n) 142 L st S) ∧
  (∀ (K : Kt QT) (n : Nat) (L : xL) (st : List Value) (S : QT), nx cod_X7_dryness cut_X7_dryness K (n + 1) 145 L st S = (O_int 6 2) (nx cod_X7_dryness cut_X7_dryness K n) 145 L st S) ∧
  (∀ (K : Kt QT) (n : Nat) (L : xL) (st : List Value) (S : QT), nx cod_X7_dryness cut_X7_dryness K (n + 1) 147 L st S = (O_ald aW 0) (nx cod_X7_dryness cut_X7_dryness K n) 147 L st S) ∧
  (∀ (K : Kt QT) (n : Nat) (L : xL) (st : List Value) (S : QT), nx cod_X7_dryness cut_X7_dryness K (n + 1) 148 L st S = (O_int 3 1) (nx cod_X7_dryness cut_X7_dryness K n) 148 L st S) ∧
  (∀ (K : Kt QT) (n : Nat) (L : xL) (st : List Value) (S : QT), nx cod_X7_dryness cut_X7_dryness K (n + 1) 149 L st S = (O_icmp_ge 165) (nx cod_X7_dryness cut_X7_dryness K n) 149 L st S) ∧
  (∀ (K : Kt QT) (n : Nat) (L : xL) (st : List Value) (S : QT), nx cod_X7_dryness cut_X7_dryness K (n + 1) 152 L st S = (O_aload 0 1) (nx cod_X7_dryness cut_X7_dryness K n) 152 L st S) ∧
  (∀ (K : Kt QT) (n : Nat) (L : xL) (st : List Value) (S : QT), nx cod_X7_dryness cut_X7_dryness K (n + 1) 153 L st S = (O_getf aW 7 0) (nx cod_X7_dryness cut_X7_dryness K n) 153 L st S) ∧
  (∀ (K : Kt QT) (n : Nat) (L : xL) (st : List Value) (S : QT), nx cod_X7_dryness cut_X7_dryness K (n + 1) 156 L st S = (O_int 5 1) (nx cod_X7_dryness cut_X7_dryness K n) 156 L st S) ∧
  (∀ (K : Kt QT) (n : Nat) (L : xL) (st : List Value) (S : QT), nx cod_X7_dryness cut_X7_dryness K (n + 1) 157 L st S = (O_int 0 1) (nx cod_X7_dryness cut_X7_dryness K n) 157 L st S) ∧
  (∀ (K : Kt QT) (n : Nat) (L : xL) (st : List Value) (S : QT), nx cod_X7_dryness cut_X7_dryness K (n + 1) 158 L st S = (O_asti aW aW_wi) (nx cod_X7_dryness cut_X7_dryness K n) 158 L st S) ∧
  (∀ (K : Kt QT) (n : Nat) (L : xL) (st : List Value) (S : QT), nx cod_X7_dryness cut_X7_dryness K (n + 1) 159 L st S = (O_aload 0 1) (nx cod_X7_dryness cut_X7_dryness K n) 159 L st S) ∧
  (∀ (K : Kt QT) (n : Nat) (L : xL) (st : List Value) (S : QT), nx cod_X7_dryness cut_X7_dryness K (n + 1) 160 L st S = (O_int 5 1) (nx cod_X7_dryness cut_X7_dryness K n) 160 L st S) ∧
  (∀ (K : Kt QT) (n : Nat) (L : xL) (st : List Value) (S : QT), nx cod_X7_dryness cut_X7_dryness K (n + 1) 161 L st S = (O_int (-1) 1) (nx cod_X7_dryness cut_X7_dryness K n) 161 L st S) ∧
  (∀ (K : Kt QT) (n : Nat) (L : xL) (st : List Value) (S : QT), nx cod_X7_dryness cut_X7_dryness K (n + 1) 162 L st S = (O_callV 2 0 (fun S => S) (fun _ S' => S') spa_X7_event) (nx cod_X7_dryness cut_X7_dryness K n) 162 L st S) ∧
  (∀ (K : Kt QT) (n : Nat) (L : xL) (st : List Value) (S : QT), nx cod_X7_dryness cut_X7_dryness K (n + 1) 165 L st S = (O_vret) (nx cod_X7_dryness cut_X7_dryness K n) 165 L st S) ∧
  (∀ (K : Kt QT) (n : Nat) (L : xL) (st : List Value) (S : QT), nx cod_X7_dryness cut_X7_dryness K (n + 1) 100000 L st S = K 100000 L st S) := by
  repeat' apply And.intro
  all_goals (intros; rfl)
set_option maxRecDepth 100000 in
theorem mk_X7_dryness {P P' : QT} {r : Option Value}  (body : ∀ E : En, CodOk E aW cod_X7_dryness → Gd E aW 100000 [] r.toList P' → Gd E aW 0 [some (.ref 0), none] [] P) : Con yX7_dryness cX7_dryness 2 none 4 aW [.ref 0] P r P' :=
  Con.of (by decide) ((aW_len P').trans (aW_len P).symm) rfl (Nat.le_of_ble_eq_true rfl) (fun E F G hr => body E (okc_X7_dryness F G) hr)
set_option maxRecDepth 10000 in
theorem con_X7_dryness (S : ST) (M : MT) (fl : Bool)  (hp : S.inv 8 ∧ fl = true) : Con yX7_dryness cX7_dryness 2 none 4 aW [.ref 0] (S, M, fl) (none) ((S.watchL, M, fl)) := by
  refine mk_X7_dryness (fun E C hr => ?_)
  obtain ⟨hi, rfl⟩ := hp
  have h116 : ∀ q : Option Value, Gd E aW 116 [some (.ref 0), q] [] (S.level1.level2, M, true) := by
    intro q
    have hL : S.level1.level2.inv 1 := ST.level2_inv (n := 1) (ST.dm_inv hi _)
    have hw : S.watchL = S.level1.level2.level3 := rfl
    rw [hw] at hr
    have hE := ST.inv_rm (n := 0) hL
    have hd := dry_b hL.2.2.2.1
    clear hi hw
    generalize S.level1.level2 = T at *
    unfold ST.level3 ST.goOn at hr
    simp only [hd] at hr
    clear hd hL
    by_cases c1 : T.level < T.settings 12
    · have : (if T.trips < 3 then (if T.dry = 1 ∧ ¬ T.level < T.settings 12 then (T.sDry 0).event 5 (-1) else T) else T) = T := by
        split
        · exact if_neg (fun z => z.2 c1)
        · rfl
      rw [this] at hr
      (refine nx1_ok C cut_X7_dryness 1000 ?_; simp only [w_X7_dryness, ops_eq, xst_eq, call_eq, oK_eq, Option.toList_some, Option.toList_none, List.cons_append, List.nil_append, List.length_cons, List.length_nil, true_and, and_true, Nat.reduceAdd, aW_F, aW_A, aW_P, aW_w, abs_eq, O_asti_eq, v170, cl_eq, ST_id, MT_gs, ST_gs, PT_gs, ZT_gs, NT_gs, ET_gs, se_X7_setting, se_X7_runs, se_X7_stop, sea_X7_event, v19_eq, c1])
      ((repeat' (with_reducible first | apply And.intro | intro _)) <;> simp_all [ST_id, MT_gs, ST_gs, PT_gs, ZT_gs, NT_gs, ET_gs])
    · by_cases c2 : T.dry = 1
      · by_cases c3 : T.trips < 3
        · rw [if_pos c3, if_pos ⟨c2, c1⟩] at hr
          (refine nx1_ok C cut_X7_dryness 1000 ?_; simp only [w_X7_dryness, ops_eq, xst_eq, call_eq, oK_eq, Option.toList_some, Option.toList_none, List.cons_append, List.nil_append, List.length_cons, List.length_nil, true_and, and_true, Nat.reduceAdd, aW_F, aW_A, aW_P, aW_w, abs_eq, O_asti_eq, v170, cl_eq, ST_id, MT_gs, ST_gs, PT_gs, ZT_gs, NT_gs, ET_gs, se_X7_setting, se_X7_runs, se_X7_stop, sea_X7_event, ev_t, v19_eq, v8_eq, hE, c1, c2, c3])
          ((repeat' (with_reducible first | apply And.intro | intro _)) <;> simp_all [ST_id, MT_gs, ST_gs, PT_gs, ZT_gs, NT_gs, ET_gs])
        · rw [if_neg c3] at hr
          (refine nx1_ok C cut_X7_dryness 1000 ?_; simp only [w_X7_dryness, ops_eq, xst_eq, call_eq, oK_eq, Option.toList_some, Option.toList_none, List.cons_append, List.nil_append, List.length_cons, List.length_nil, true_and, and_true, Nat.reduceAdd, aW_F, aW_A, aW_P, aW_w, abs_eq, O_asti_eq, v170, cl_eq, ST_id, MT_gs, ST_gs, PT_gs, ZT_gs, NT_gs, ET_gs, se_X7_setting, se_X7_runs, se_X7_stop, sea_X7_event, ev_t, v19_eq, v8_eq, hE, c1, c2, c3])
          ((repeat' (with_reducible first | apply And.intro | intro _)) <;> simp_all [ST_id, MT_gs, ST_gs, PT_gs, ZT_gs, NT_gs, ET_gs])
      · have : (if T.trips < 3 then (if T.dry = 1 ∧ ¬ T.level < T.settings 12 then (T.sDry 0).event 5 (-1) else T) else T) = T := by
          split
          · exact if_neg (fun z => c2 z.1)
          · rfl
        rw [this] at hr
        (refine nx1_ok C cut_X7_dryness 1000 ?_; simp only [w_X7_dryness, ops_eq, xst_eq, call_eq, oK_eq, Option.toList_some, Option.toList_none, List.cons_append, List.nil_append, List.length_cons, List.length_nil, true_and, and_true, Nat.reduceAdd, aW_F, aW_A, aW_P, aW_w, abs_eq, O_asti_eq, v170, cl_eq, ST_id, MT_gs, ST_gs, PT_gs, ZT_gs, NT_gs, ET_gs, se_X7_setting, se_X7_runs, se_X7_stop, sea_X7_event, v19_eq, c1, c2])
        ((repeat' (with_reducible first | apply And.intro | intro _)) <;> simp_all [ST_id, MT_gs, ST_gs, PT_gs, ZT_gs, NT_gs, ET_gs])
  clear hr
  have h35 : Gd E aW 35 [some (.ref 0), none] [] (S.level1, M, true) := by
    have hi1 : S.level1.inv 8 := ST.dm_inv hi _
    have es : S.level1.settings = S.settings := rfl
    clear hi
    generalize S.level1 = T at *
    by_cases c1 : T.dryMinutes < T.settings 13
    · have e : T.level2 = T := if_neg (fun z => z.2 c1)
      rw [e] at h116
      clear hi1 e
      (refine nx1_ok C cut_X7_dryness 1000 ?_; simp only [w_X7_dryness, ops_eq, xst_eq, call_eq, oK_eq, Option.toList_some, Option.toList_none, List.cons_append, List.nil_append, List.length_cons, List.length_nil, true_and, and_true, Nat.reduceAdd, aW_F, aW_A, aW_P, aW_w, abs_eq, O_asti_eq, v170, cl_eq, ST_id, MT_gs, ST_gs, PT_gs, ZT_gs, NT_gs, ET_gs, se_X7_setting, se_X7_runs, se_X7_stop, sea_X7_event, v19_eq, c1])
      ((repeat' (with_reducible first | apply And.intro | intro _)) <;> simp_all [ST_id, MT_gs, ST_gs, PT_gs, ZT_gs, NT_gs, ET_gs])
    · by_cases c2 : T.dry = 0
      · have e : T.level2 = ((T.stopAll.sDry 1).sTrips (T.stopAll.trips + 1)).event 4 (-1) := if_pos ⟨c2, c1⟩
        rw [e] at h116
        have h69 : Gd E aW 69 [some (.ref 0), some (.int (nI 0))] [] (T.sDry 1, M, true) := by
          refine it_up (f := fun p U => ST.stop U (nI p)) (a := T) (n := T.P.n) (fun i (U : ST) => i ≤ 6 → U.inv (2 + (6 - i)) ∧ U.P.size = T.P.size) (fun i (U : ST) => Gd E aW 69 [some (.ref 0), some (.int (nI i))] [] (U.sDry 1, M, true)) (fun _ => ⟨hi1, rfl⟩) (fun i U hin hU q => ?_) (fun i U hin hU hn => ?_) ?_
          · obtain ⟨g1, g2⟩ := hU (by omega)
            rw [show 2 + (6 - i) = 2 + (6 - (i + 1)) + 1 by omega] at g1
            exact ⟨ST.stop_inv g1 _, (ST.stop_size _ _).trans g2⟩
          · have h6 := PT.n6 hi1.1.1
            obtain ⟨g1, g2⟩ := hU (by omega)
            have hx := ixs hi1.1.1 hin
            have gP := g1.1
            have gE : U.E.rm := ST.inv_rm (n := 2 + (6 - i) - 1) (by rw [show 2 + (6 - i) - 1 + 1 = 2 + (6 - i) by omega]; exact g1)
            have hh : U.P.has (nI i) = true := PT.n_has g1.1.1 (by unfold PT.n; rw [g2]; exact hin)
            have hruns : U.P.runs (nI i) = U.P.run i := by
              unfold PT.runs
              rw [hh, hx.2.1, Bool.true_and]
            clear h116 hU g1
            have hss := stop_sDry U 1 (nI i)
            cases c : U.P.run i with
            | true =>
              rw [c] at hruns
              (refine nx1_ok C cut_X7_dryness 1000 ?_; simp only [w_X7_dryness, ops_eq, xst_eq, call_eq, oK_eq, Option.toList_some, Option.toList_none, List.cons_append, List.nil_append, List.length_cons, List.length_nil, true_and, and_true, Nat.reduceAdd, aW_F, aW_A, aW_P, aW_w, abs_eq, O_asti_eq, v170, cl_eq, ST_id, MT_gs, ST_gs, PT_gs, ZT_gs, NT_gs, ET_gs, se_X7_setting, se_X7_runs, se_X7_stop, sea_X7_event, ev_t, bI_eq, hx, g2, gP, gE, hruns, c, hss])
              ((repeat' (with_reducible first | apply And.intro | intro _)) <;> simp_all [ST_id, MT_gs, ST_gs, PT_gs, ZT_gs, NT_gs, ET_gs])
            | false =>
              have e2 : U.stop (nI i) = U := if_neg (by rw [hruns, c]; decide)
              rw [e2] at hn
              clear e2 hss
              (refine nx1_ok C cut_X7_dryness 1000 ?_; simp only [w_X7_dryness, ops_eq, xst_eq, call_eq, oK_eq, Option.toList_some, Option.toList_none, List.cons_append, List.nil_append, List.length_cons, List.length_nil, true_and, and_true, Nat.reduceAdd, aW_F, aW_A, aW_P, aW_w, abs_eq, O_asti_eq, v170, cl_eq, ST_id, MT_gs, ST_gs, PT_gs, ZT_gs, NT_gs, ET_gs, se_X7_setting, se_X7_runs, se_X7_stop, sea_X7_event, ev_t, bI_eq, hx, g2, gP, gE, c])
              ((repeat' (with_reducible first | apply And.intro | intro _)) <;> simp_all [ST_id, MT_gs, ST_gs, PT_gs, ZT_gs, NT_gs, ET_gs])
          · have e3 : it (fun p U => ST.stop U (nI p)) T T.P.n = T.stopAll := rfl
            rw [e3]
            have hx := ixe hi1.1.1
            have hsz : T.stopAll.P.size = T.P.size := ST.stopAll_size T
            have hE : T.stopAll.E.rm := ST.inv_rm (n := 1) (ST.stopAll_inv hi1)
            clear hi1 e3
            (refine nx1_ok C cut_X7_dryness 1000 ?_; simp only [w_X7_dryness, ops_eq, xst_eq, call_eq, oK_eq, Option.toList_some, Option.toList_none, List.cons_append, List.nil_append, List.length_cons, List.length_nil, true_and, and_true, Nat.reduceAdd, aW_F, aW_A, aW_P, aW_w, abs_eq, O_asti_eq, v170, cl_eq, ST_id, MT_gs, ST_gs, PT_gs, ZT_gs, NT_gs, ET_gs, se_X7_setting, se_X7_runs, se_X7_stop, sea_X7_event, ev_t, v8_eq, hx, hsz, hE])
            ((repeat' (with_reducible first | apply And.intro | intro _)) <;> simp_all [ST_id, MT_gs, ST_gs, PT_gs, ZT_gs, NT_gs, ET_gs])
        clear h116
        (refine nx1_ok C cut_X7_dryness 1000 ?_; simp only [w_X7_dryness, ops_eq, xst_eq, call_eq, oK_eq, Option.toList_some, Option.toList_none, List.cons_append, List.nil_append, List.length_cons, List.length_nil, true_and, and_true, Nat.reduceAdd, aW_F, aW_A, aW_P, aW_w, abs_eq, O_asti_eq, v170, cl_eq, ST_id, MT_gs, ST_gs, PT_gs, ZT_gs, NT_gs, ET_gs, se_X7_setting, se_X7_runs, se_X7_stop, sea_X7_event, v19_eq, c1, c2])
        ((repeat' (with_reducible first | apply And.intro | intro _)) <;> simp_all [nI_0, ST_id, MT_gs, ST_gs, PT_gs, ZT_gs, NT_gs, ET_gs])
      · have e : T.level2 = T := if_neg (fun z => c2 z.1)
        rw [e] at h116
        clear hi1 e
        (refine nx1_ok C cut_X7_dryness 1000 ?_; simp only [w_X7_dryness, ops_eq, xst_eq, call_eq, oK_eq, Option.toList_some, Option.toList_none, List.cons_append, List.nil_append, List.length_cons, List.length_nil, true_and, and_true, Nat.reduceAdd, aW_F, aW_A, aW_P, aW_w, abs_eq, O_asti_eq, v170, cl_eq, ST_id, MT_gs, ST_gs, PT_gs, ZT_gs, NT_gs, ET_gs, se_X7_setting, se_X7_runs, se_X7_stop, sea_X7_event, v19_eq, c1, c2])
        ((repeat' (with_reducible first | apply And.intro | intro _)) <;> simp_all [ST_id, MT_gs, ST_gs, PT_gs, ZT_gs, NT_gs, ET_gs])
  clear h116
  have e : S.level1 = S.sDryMinutes (if S.level < S.settings 11 then S.dryMinutes + 1 else 0) := rfl
  rw [e] at h35
  by_cases c : S.level < S.settings 11
  · rw [if_pos c] at h35
    (refine nx_ok C (cuts := cut_X7_dryness) 1000 _ _ _ _ ?_; simp only [w_X7_dryness, ops_eq, xst_eq, call_eq, oK_eq, Option.toList_some, Option.toList_none, List.cons_append, List.nil_append, List.length_cons, List.length_nil, true_and, and_true, Nat.reduceAdd, aW_F, aW_A, aW_P, aW_w, abs_eq, O_asti_eq, v170, cl_eq, ST_id, MT_gs, ST_gs, PT_gs, ZT_gs, NT_gs, ET_gs, se_X7_setting, se_X7_runs, se_X7_stop, sea_X7_event, v19_eq, c])
    ((repeat' (with_reducible first | apply And.intro | intro _)) <;> simp_all [ST_id, MT_gs, ST_gs, PT_gs, ZT_gs, NT_gs, ET_gs])
  · rw [if_neg c] at h35
    (refine nx_ok C (cuts := cut_X7_dryness) 1000 _ _ _ _ ?_; simp only [w_X7_dryness, ops_eq, xst_eq, call_eq, oK_eq, Option.toList_some, Option.toList_none, List.cons_append, List.nil_append, List.length_cons, List.length_nil, true_and, and_true, Nat.reduceAdd, aW_F, aW_A, aW_P, aW_w, abs_eq, O_asti_eq, v170, cl_eq, ST_id, MT_gs, ST_gs, PT_gs, ZT_gs, NT_gs, ET_gs, se_X7_setting, se_X7_runs, se_X7_stop, sea_X7_event, v19_eq, c])
    ((repeat' (with_reducible first | apply And.intro | intro _)) <;> simp_all [ST_id, MT_gs, ST_gs, PT_gs, ZT_gs, NT_gs, ET_gs])
def spc_X7_dryness (S : ST) (M : MT) (fl : Bool)  (K : Option Value → QT → Prop) : Prop := (S.inv 8 ∧ fl = true) ∧ K (none) ((S.watchL, M, fl))
def sp_X7_dryness : Sp QT := fun av q K => match av with
  | [.ref 0] => spc_X7_dryness q.1 q.2.1 q.2.2  K
  | _ => False
theorem se_X7_dryness (S : ST) (M : MT) (fl : Bool)  (K : Option Value → QT → Prop) : sp_X7_dryness [.ref 0] (S, M, fl) K = ((S.inv 8 ∧ fl = true) ∧ K (none) ((S.watchL, M, fl))) := rfl
theorem spok_X7_dryness : SpOk yX7_dryness cX7_dryness 2 none 4 aW sp_X7_dryness := by
  intro av q K h
  unfold sp_X7_dryness at h
  split at h
  · refine ⟨_, _, ?_, con_X7_dryness q.1 q.2.1 q.2.2  h.1, h.2⟩; trivial
  · exact h.elim
def cod_X7_regulate : List (Nat × Op QT) := [(0, O_aload 0 1), (1, O_getf aW 7 0), (4, O_int 4 1), (5, O_ald aW 0), (6, O_istore 1 1), (7, O_iload 1 1), (8, O_int (-1) 1), (9, O_icmp_eq 73), (12, O_aload 0 1), (13, O_int 0 1), (14, O_callV 1 0 (fun S => S) (fun _ S' => S') sp_X7_setting), (17, O_aload 0 1), (18, O_getf aW 7 0), (21, O_int 1 1), (22, O_ald aW 0), (23, O_isub), (24, O_aload 0 1), (25, O_int 2 1), (26, O_callV 1 0 (fun S => S) (fun _ S' => S') sp_X7_setting), (29, O_imul), (30, O_int 100 2), (32, O_idiv), (33, O_aload 0 1), (34, O_int 3 1), (35, O_callV 1 0 (fun S => S) (fun _ S' => S') sp_X7_setting), (38, O_ineg), (39, O_aload 0 1), (40, O_int 3 1), (41, O_callV 1 0 (fun S => S) (fun _ S' => S') sp_X7_setting), (44, O_callS 3 sp_X7_within), (47, O_istore 2 1), (48, O_aload 0 1), (49, O_iload 1 1), (50, O_int 4 1), (51, O_aload 0 1), (52, O_iload 1 1), (53, O_int 4 1), (54, O_callV 2 0 (fun S => S) (fun _ S' => S') sp_X7_of), (57, O_iload 2 1), (58, O_iadd), (59, O_aload 0 1), (60, O_int 4 1), (61, O_callV 1 0 (fun S => S) (fun _ S' => S') sp_X7_setting), (64, O_int 1000 3), (67, O_callS 3 sp_X7_within), (70, O_callV 3 0 (fun S => S) (fun _ S' => S') sp_X7_put), (73, O_vret)]
abbrev cut_X7_regulate : List Nat := []
set_option maxRecDepth 100000 in
theorem okc_X7_regulate {E : En} (F : Fx E RX7 cX7_regulate 3 1) (G : Fr E none) : CodOk E aW cod_X7_regulate := by
  unfold CodOk cod_X7_regulate
  refine List.forall_mem_cons.mpr ⟨ok_aload_n F dX7_regulate_0 rfl (by decide), ?_⟩
  refine List.forall_mem_cons.mpr ⟨ok_getf F flX7_7 dX7_regulate_1 (by decide), ?_⟩
  refine List.forall_mem_cons.mpr ⟨ok_iconst F dX7_regulate_4 (by decide) (by decide), ?_⟩
  refine List.forall_mem_cons.mpr ⟨ok_iald F dX7_regulate_5 (by decide), ?_⟩
  refine List.forall_mem_cons.mpr ⟨ok_istore_n F dX7_regulate_6 rfl (by decide) (by decide), ?_⟩
  refine List.forall_mem_cons.mpr ⟨ok_iload_n F dX7_regulate_7 rfl (by decide), ?_⟩
  refine List.forall_mem_cons.mpr ⟨ok_iconst F dX7_regulate_8 (by decide) (by decide), ?_⟩
  refine List.forall_mem_cons.mpr ⟨ok_icmp_eq F dX7_regulate_9 (by decide) (by decide) (by decide), ?_⟩
  refine List.forall_mem_cons.mpr ⟨ok_aload_n F dX7_regulate_12 rfl (by decide), ?_⟩
  refine List.forall_mem_cons.mpr ⟨ok_iconst F dX7_regulate_13 (by decide) (by decide), ?_⟩
  refine List.forall_mem_cons.mpr ⟨ok_callV F spok_X7_setting (ln_id aW) rcv_aW (by decide +kernel) (by decide) dX7_regulate_14 (by decide), ?_⟩
  refine List.forall_mem_cons.mpr ⟨ok_aload_n F dX7_regulate_17 rfl (by decide), ?_⟩
  refine List.forall_mem_cons.mpr ⟨ok_getf F flX7_7 dX7_regulate_18 (by decide), ?_⟩
  refine List.forall_mem_cons.mpr ⟨ok_iconst F dX7_regulate_21 (by decide) (by decide), ?_⟩
  refine List.forall_mem_cons.mpr ⟨ok_iald F dX7_regulate_22 (by decide), ?_⟩
  refine List.forall_mem_cons.mpr ⟨ok_isub F dX7_regulate_23 (by decide), ?_⟩
  refine List.forall_mem_cons.mpr ⟨ok_aload_n F dX7_regulate_24 rfl (by decide), ?_⟩
  refine List.forall_mem_cons.mpr ⟨ok_iconst F dX7_regulate_25 (by decide) (by decide), ?_⟩
  refine List.forall_mem_cons.mpr ⟨ok_callV F spok_X7_setting (ln_id aW) rcv_aW (by decide +kernel) (by decide) dX7_regulate_26 (by decide), ?_⟩
  refine List.forall_mem_cons.mpr ⟨ok_imul F dX7_regulate_29 (by decide), ?_⟩
  refine List.forall_mem_cons.mpr ⟨ok_bipush F dX7_regulate_30 (by decide) (by decide), ?_⟩
  refine List.forall_mem_cons.mpr ⟨ok_idiv F dX7_regulate_32 (by decide), ?_⟩
  refine List.forall_mem_cons.mpr ⟨ok_aload_n F dX7_regulate_33 rfl (by decide), ?_⟩
  refine List.forall_mem_cons.mpr ⟨ok_iconst F dX7_regulate_34 (by decide) (by decide), ?_⟩
  refine List.forall_mem_cons.mpr ⟨ok_callV F spok_X7_setting (ln_id aW) rcv_aW (by decide +kernel) (by decide) dX7_regulate_35 (by decide), ?_⟩
  refine List.forall_mem_cons.mpr ⟨ok_ineg F dX7_regulate_38 (by decide), ?_⟩
  refine List.forall_mem_cons.mpr ⟨ok_aload_n F dX7_regulate_39 rfl (by decide), ?_⟩
  refine List.forall_mem_cons.mpr ⟨ok_iconst F dX7_regulate_40 (by decide) (by decide), ?_⟩
  refine List.forall_mem_cons.mpr ⟨ok_callV F spok_X7_setting (ln_id aW) rcv_aW (by decide +kernel) (by decide) dX7_regulate_41 (by decide), ?_⟩
  refine List.forall_mem_cons.mpr ⟨ok_callS F spok_X7_within (by decide +kernel) rfl (by decide) dX7_regulate_44 (by decide), ?_⟩
  refine List.forall_mem_cons.mpr ⟨ok_istore_n F dX7_regulate_47 rfl (by decide) (by decide), ?_⟩
  refine List.forall_mem_cons.mpr ⟨ok_aload_n F dX7_regulate_48 rfl (by decide), ?_⟩
  refine List.forall_mem_cons.mpr ⟨ok_iload_n F dX7_regulate_49 rfl (by decide), ?_⟩
  refine List.forall_mem_cons.mpr ⟨ok_iconst F dX7_regulate_50 (by decide) (by decide), ?_⟩
  refine List.forall_mem_cons.mpr ⟨ok_aload_n F dX7_regulate_51 rfl (by decide), ?_⟩
  refine List.forall_mem_cons.mpr ⟨ok_iload_n F dX7_regulate_52 rfl (by decide), ?_⟩
  refine List.forall_mem_cons.mpr ⟨ok_iconst F dX7_regulate_53 (by decide) (by decide), ?_⟩
  refine List.forall_mem_cons.mpr ⟨ok_callV F spok_X7_of (ln_id aW) rcv_aW (by decide +kernel) (by decide) dX7_regulate_54 (by decide), ?_⟩
  refine List.forall_mem_cons.mpr ⟨ok_iload_n F dX7_regulate_57 rfl (by decide), ?_⟩
  refine List.forall_mem_cons.mpr ⟨ok_iadd F dX7_regulate_58 (by decide), ?_⟩
  refine List.forall_mem_cons.mpr ⟨ok_aload_n F dX7_regulate_59 rfl (by decide), ?_⟩
  refine List.forall_mem_cons.mpr ⟨ok_iconst F dX7_regulate_60 (by decide) (by decide), ?_⟩
  refine List.forall_mem_cons.mpr ⟨ok_callV F spok_X7_setting (ln_id aW) rcv_aW (by decide +kernel) (by decide) dX7_regulate_61 (by decide), ?_⟩
  refine List.forall_mem_cons.mpr ⟨ok_sipush F dX7_regulate_64 (by decide) (by decide), ?_⟩
  refine List.forall_mem_cons.mpr ⟨ok_callS F spok_X7_within (by decide +kernel) rfl (by decide) dX7_regulate_67 (by decide), ?_⟩
  refine List.forall_mem_cons.mpr ⟨ok_callV F spok_X7_put (ln_id aW) rcv_aW (by decide +kernel) (by decide) dX7_regulate_70 (by decide), ?_⟩
  refine List.forall_mem_cons.mpr ⟨ok_vret F G dX7_regulate_73 (by decide), ?_⟩
  exact fun _ h => absurd h List.not_mem_nil
set_option maxRecDepth 100000 in
theorem w_X7_regulate : (∀ (K : Kt QT) (n : Nat) (L : xL) (st : List Value) (S : QT), nx cod_X7_regulate cut_X7_regulate K (n + 1) 0 L st S = (O_aload 0 1) (nx cod_X7_regulate cut_X7_regulate K n) 0 L st S) ∧
  (∀ (K : Kt QT) (n : Nat) (L : xL) (st : List Value) (S : QT), nx cod_X7_regulate cut_X7_regulate K (n + 1) 1 L st S = (O_getf aW 7 0) (nx cod_X7_regulate cut_X7_regulate K n) 1 L st S) ∧
  (∀ (K : Kt QT) (n : Nat) (L : xL) (st : List Value) (S : QT), nx cod_X7_regulate cut_X7_regulate K (n + 1) 4 L st S = (O_int 4 1) (nx cod_X7_regulate cut_X7_regulate K n) 4 L st S) ∧
  (∀ (K : Kt QT) (n : Nat) (L : xL) (st : List Value) (S : QT), nx cod_X7_regulate cut_X7_regulate K (n + 1) 5 L st S = (O_ald aW 0) (nx cod_X7_regulate cut_X7_regulate K n) 5 L st S) ∧
  (∀ (K : Kt QT) (n : Nat) (L : xL) (st : List Value) (S : QT), nx cod_X7_regulate cut_X7_regulate K (n + 1) 6 L st S = (O_istore 1 1) (nx cod_X7_regulate cut_X7_regulate K n) 6 L st S) ∧
  (∀ (K : Kt QT) (n : Nat) (L : xL) (st : List Value) (S : QT), nx cod_X7_regulate cut_X7_regulate K (n + 1) 7 L st S = (O_iload 1 1) (nx cod_X7_regulate cut_X7_regulate K n) 7 L st S) ∧
  (∀ (K : Kt QT) (n : Nat) (L : xL) (st : List Value) (S : QT), nx cod_X7_regulate cut_X7_regulate K (n + 1) 8 L st S = (O_int (-1) 1) (nx cod_X7_regulate cut_X7_regulate K n) 8 L st S) ∧
  (∀ (K : Kt QT) (n : Nat) (L : xL) (st : List Value) (S : QT), nx cod_X7_regulate cut_X7_regulate K (n + 1) 9 L st S = (O_icmp_eq 73) (nx cod_X7_regulate cut_X7_regulate K n) 9 L st S) ∧
  (∀ (K : Kt QT) (n : Nat) (L : xL) (st : List Value) (S : QT), nx cod_X7_regulate cut_X7_regulate K (n + 1) 12 L st S = (O_aload 0 1) (nx cod_X7_regulate cut_X7_regulate K n) 12 L st S) ∧
  (∀ (K : Kt QT) (n : Nat) (L : xL) (st : List Value) (S : QT), nx cod_X7_regulate cut_X7_regulate K (n + 1) 13 L st S = (O_int 0 1) (nx cod_X7_regulate cut_X7_regulate K n) 13 L st S) ∧
  (∀ (K : Kt QT) (n : Nat) (L : xL) (st : List Value) (S : QT), nx cod_X7_regulate cut_X7_regulate K (n + 1) 14 L st S = (O_callV 1 0 (fun S => S) (fun _ S' => S') sp_X7_setting) (nx cod_X7_regulate cut_X7_regulate K n) 14 L st S) ∧
  (∀ (K : Kt QT) (n : Nat) (L : xL) (st : List Value) (S : QT), nx cod_X7_regulate cut_X7_regulate K (n + 1) 17 L st S = (O_aload 0 1) (nx cod_X7_regulate cut_X7_regulate K n) 17 L st S) ∧
  (∀ (K : Kt QT) (n : Nat) (L : xL) (st : List Value) (S : QT), nx cod_X7_regulate cut_X7_regulate K (n + 1) 18 L st S = (O_getf aW 7 0) (nx cod_X7_regulate cut_X7_regulate K n) 18 L st S) ∧
  (∀ (K : Kt QT) (n : Nat) (L : xL) (st : List Value) (S : QT), nx cod_X7_regulate cut_X7_regulate K (n + 1) 21 L st S = (O_int 1 1) (nx cod_X7_regulate cut_X7_regulate K n) 21 L st S) ∧
  (∀ (K : Kt QT) (n : Nat) (L : xL) (st : List Value) (S : QT), nx cod_X7_regulate cut_X7_regulate K (n + 1) 22 L st S = (O_ald aW 0) (nx cod_X7_regulate cut_X7_regulate K n) 22 L st S) ∧
  (∀ (K : Kt QT) (n : Nat) (L : xL) (st : List Value) (S : QT), nx cod_X7_regulate cut_X7_regulate K (n + 1) 23 L st S = (O_isub) (nx cod_X7_regulate cut_X7_regulate K n) 23 L st S) ∧
  (∀ (K : Kt QT) (n : Nat) (L : xL) (st : List Value) (S : QT), nx cod_X7_regulate cut_X7_regulate K (n + 1) 24 L st S = (O_aload 0 1) (nx cod_X7_regulate cut_X7_regulate K n) 24 L st S) ∧
  (∀ (K : Kt QT) (n : Nat) (L : xL) (st : List Value) (S : QT), nx cod_X7_regulate cut_X7_regulate K (n + 1) 25 L st S = (O_int 2 1) (nx cod_X7_regulate cut_X7_regulate K n) 25 L st S) ∧
  (∀ (K : Kt QT) (n : Nat) (L : xL) (st : List Value) (S : QT), nx cod_X7_regulate cut_X7_regulate K (n + 1) 26 L st S = (O_callV 1 0 (fun S => S) (fun _ S' => S') sp_X7_setting) (nx cod_X7_regulate cut_X7_regulate K n) 26 L st S) ∧
  (∀ (K : Kt QT) (n : Nat) (L : xL) (st : List Value) (S : QT), nx cod_X7_regulate cut_X7_regulate K (n + 1) 29 L st S = (O_imul) (nx cod_X7_regulate cut_X7_regulate K n) 29 L st S) ∧
  (∀ (K : Kt QT) (n : Nat) (L : xL) (st : List Value) (S : QT), nx cod_X7_regulate cut_X7_regulate K (n + 1) 30 L st S = (O_int 100 2) (nx cod_X7_regulate cut_X7_regulate K n) 30 L st S) ∧
  (∀ (K : Kt QT) (n : Nat) (L : xL) (st : List Value) (S : QT), nx cod_X7_regulate cut_X7_regulate K (n + 1) 32 L st S = (O_idiv) (nx cod_X7_regulate cut_X7_regulate K n) 32 L st S) ∧
  (∀ (K : Kt QT) (n : Nat) (L : xL) (st : List Value) (S : QT), nx cod_X7_regulate cut_X7_regulate K (n + 1) 33 L st S = (O_aload 0 1) (nx cod_X7_regulate cut_X7_regulate K n) 33 L st S) ∧
  (∀ (K : Kt QT) (n : Nat) (L : xL) (st : List Value) (S : QT), nx cod_X7_regulate cut_X7_regulate K (n + 1) 34 L st S = (O_int 3 1) (nx cod_X7_regulate cut_X7_regulate K n) 34 L st S) ∧
  (∀ (K : Kt QT) (n : Nat) (L : xL) (st : List Value) (S : QT), nx cod_X7_regulate cut_X7_regulate K (n + 1) 35 L st S = (O_callV 1 0 (fun S => S) (fun _ S' => S') sp_X7_setting) (nx cod_X7_regulate cut_X7_regulate K n) 35 L st S) ∧
  (∀ (K : Kt QT) (n : Nat) (L : xL) (st : List Value) (S : QT), nx cod_X7_regulate cut_X7_regulate K (n + 1) 38 L st S = (O_ineg) (nx cod_X7_regulate cut_X7_regulate K n) 38 L st S) ∧
  (∀ (K : Kt QT) (n : Nat) (L : xL) (st : List Value) (S : QT), nx cod_X7_regulate cut_X7_regulate K (n + 1) 39 L st S = (O_aload 0 1) (nx cod_X7_regulate cut_X7_regulate K n) 39 L st S) ∧
  (∀ (K : Kt QT) (n : Nat) (L : xL) (st : List Value) (S : QT), nx cod_X7_regulate cut_X7_regulate K (n + 1) 40 L st S = (O_int 3 1) (nx cod_X7_regulate cut_X7_regulate K n) 40 L st S) ∧
  (∀ (K : Kt QT) (n : Nat) (L : xL) (st : List Value) (S : QT), nx cod_X7_regulate cut_X7_regulate K (n + 1) 41 L st S = (O_callV 1 0 (fun S => S) (fun _ S' => S') sp_X7_setting) (nx cod_X7_regulate cut_X7_regulate K n) 41 L st S) ∧
  (∀ (K : Kt QT) (n : Nat) (L : xL) (st : List Value) (S : QT), nx cod_X7_regulate cut_X7_regulate K (n + 1) 44 L st S = (O_callS 3 sp_X7_within) (nx cod_X7_regulate cut_X7_regulate K n) 44 L st S) ∧
  (∀ (K : Kt QT) (n : Nat) (L : xL) (st : List Value) (S : QT), nx cod_X7_regulate cut_X7_regulate K (n + 1) 47 L st S = (O_istore 2 1) (nx cod_X7_regulate cut_X7_regulate K n) 47 L st S) ∧
  (∀ (K : Kt QT) (n : Nat) (L : xL) (st : List Value) (S : QT), nx cod_X7_regulate cut_X7_regulate K (n + 1) 48 L st S = (O_aload 0 1) (nx cod_X7_regulate cut_X7_regulate K n) 48 L st S) ∧
  (∀ (K : Kt QT) (n : Nat) (L : xL) (st : List Value) (S : QT), nx cod_X7_regulate cut_X7_regulate K (n + 1) 49 L st S = (O_iload 1 1) (nx cod_X7_regulate cut_X7_regulate K n) 49 L st S) ∧
  (∀ (K : Kt QT) (n : Nat) (L : xL) (st : List Value) (S : QT), nx cod_X7_regulate cut_X7_regulate K (n + 1) 50 L st S = (O_int 4 1) (nx cod_X7_regulate cut_X7_regulate K n) 50 L st S) ∧
  (∀ (K : Kt QT) (n : Nat) (L : xL) (st : List Value) (S : QT), nx cod_X7_regulate cut_X7_regulate K (n + 1) 51 L st S = (O_aload 0 1) (nx cod_X7_regulate cut_X7_regulate K n) 51 L st S) ∧
  (∀ (K : Kt QT) (n : Nat) (L : xL) (st : List Value) (S : QT), nx cod_X7_regulate cut_X7_regulate K (n + 1) 52 L st S = (O_iload 1 1) (nx cod_X7_regulate cut_X7_regulate K n) 52 L st S) ∧
  (∀ (K : Kt QT) (n : Nat) (L : xL) (st : List Value) (S : QT), nx cod_X7_regulate cut_X7_regulate K (n + 1) 53 L st S = (O_int 4 1) (nx cod_X7_regulate cut_X7_regulate K n) 53 L st S) ∧
  (∀ (K : Kt QT) (n : Nat) (L : xL) (st : List Value) (S : QT), nx cod_X7_regulate cut_X7_regulate K (n + 1) 54 L st S = (O_callV 2 0 (fun S => S) (fun _ S' => S') sp_X7_of) (nx cod_X7_regulate cut_X7_regulate K n) 54 L st S) ∧
  (∀ (K : Kt QT) (n : Nat) (L : xL) (st : List Value) (S : QT), nx cod_X7_regulate cut_X7_regulate K (n + 1) 57 L st S = (O_iload 2 1) (nx cod_X7_regulate cut_X7_regulate K n) 57 L st S) ∧
  (∀ (K : Kt QT) (n : Nat) (L : xL) (st : List Value) (S : QT), nx cod_X7_regulate cut_X7_regulate K (n + 1) 58 L st S = (O_iadd) (nx cod_X7_regulate cut_X7_regulate K n) 58 L st S) ∧
  (∀ (K : Kt QT) (n : Nat) (L : xL) (st : List Value) (S : QT), nx cod_X7_regulate cut_X7_regulate K (n + 1) 59 L st S = (O_aload 0 1) (nx cod_X7_regulate cut_X7_regulate K n) 59 L st S) ∧
  (∀ (K : Kt QT) (n : Nat) (L : xL) (st : List Value) (S : QT), nx cod_X7_regulate cut_X7_regulate K (n + 1) 60 L st S = (O_int 4 1) (nx cod_X7_regulate cut_X7_regulate K n) 60 L st S) ∧
  (∀ (K : Kt QT) (n : Nat) (L : xL) (st : List Value) (S : QT), nx cod_X7_regulate cut_X7_regulate K (n + 1) 61 L st S = (O_callV 1 0 (fun S => S) (fun _ S' => S') sp_X7_setting) (nx cod_X7_regulate cut_X7_regulate K n) 61 L st S) ∧
  (∀ (K : Kt QT) (n : Nat) (L : xL) (st : List Value) (S : QT), nx cod_X7_regulate cut_X7_regulate K (n + 1) 64 L st S = (O_int 1000 3) (nx cod_X7_regulate cut_X7_regulate K n) 64 L st S) ∧
  (∀ (K : Kt QT) (n : Nat) (L : xL) (st : List Value) (S : QT), nx cod_X7_regulate cut_X7_regulate K (n + 1) 67 L st S = (O_callS 3 sp_X7_within) (nx cod_X7_regulate cut_X7_regulate K n) 67 L st S) ∧
  (∀ (K : Kt QT) (n : Nat) (L : xL) (st : List Value) (S : QT), nx cod_X7_regulate cut_X7_regulate K (n + 1) 70 L st S = (O_callV 3 0 (fun S => S) (fun _ S' => S') sp_X7_put) (nx cod_X7_regulate cut_X7_regulate K n) 70 L st S) ∧
  (∀ (K : Kt QT) (n : Nat) (L : xL) (st : List Value) (S : QT), nx cod_X7_regulate cut_X7_regulate K (n + 1) 73 L st S = (O_vret) (nx cod_X7_regulate cut_X7_regulate K n) 73 L st S) ∧
  (∀ (K : Kt QT) (n : Nat) (L : xL) (st : List Value) (S : QT), nx cod_X7_regulate cut_X7_regulate K (n + 1) 100000 L st S = K 100000 L st S) := by
  repeat' apply And.intro
  all_goals (intros; rfl)
set_option maxRecDepth 100000 in
theorem mk_X7_regulate {P P' : QT} {r : Option Value}  (body : ∀ E : En, CodOk E aW cod_X7_regulate → Gd E aW 100000 [] r.toList P' → Gd E aW 0 [some (.ref 0), none, none] [] P) : Con yX7_regulate cX7_regulate 3 none 1 aW [.ref 0] P r P' :=
  Con.of (by decide) ((aW_len P').trans (aW_len P).symm) rfl (Nat.le_of_ble_eq_true rfl) (fun E F G hr => body E (okc_X7_regulate F G) hr)
set_option maxRecDepth 10000 in
theorem con_X7_regulate (S : ST) (M : MT) (fl : Bool)  (hp : S.P.inv ∧ setOk S.settings) : Con yX7_regulate cX7_regulate 3 none 1 aW [.ref 0] (S, M, fl) (none) ((S.adjust, M, fl)) := by
  refine mk_X7_regulate (fun E C hr => ?_)
  obtain ⟨hi, hs⟩ := hp
  by_cases c : S.P.vrb = -1
  · have e : S.adjust = S := if_pos ((PT.vok_has hi).mpr c)
    rw [e] at hr
    clear e hi hs
    (refine nx_ok C (cuts := cut_X7_regulate) 1000 _ _ _ _ ?_; simp only [w_X7_regulate, ops_eq, xst_eq, call_eq, oK_eq, Option.toList_some, Option.toList_none, List.cons_append, List.nil_append, List.length_cons, List.length_nil, true_and, and_true, Nat.reduceAdd, aW_F, aW_A, aW_P, aW_w, abs_eq, O_asti_eq, v170, cl_eq, ST_id, MT_gs, ST_gs, PT_gs, ZT_gs, NT_gs, ET_gs, se_X7_setting, se_X7_within, se_X7_of, se_X7_put, c])
    ((repeat' (with_reducible first | apply And.intro | intro _)) <;> simp_all [ST_id, MT_gs, ST_gs, PT_gs, ZT_gs, NT_gs, ET_gs])
  · have hh : S.P.has S.P.vrb = true := by
      cases z : S.P.has S.P.vrb
      · exact absurd ((PT.vok_has hi).mp z) c
      · rfl
    have hv := PT.has_in hi.1 hh
    have e : S.adjust = S.sP (S.P.sSpeeds (upd S.P.speeds S.P.vrb.toNatClampNeg (wit (S.P.speeds S.P.vrb.toNatClampNeg + wit ((S.settings 0 - S.pressure) * S.settings 2 / 100) (-S.settings 3) (S.settings 3)) (S.settings 4) 1000))) := by
      unfold ST.adjust
      rw [if_neg (by rw [hh]; decide)]
      rw [wit_hold (v := (S.settings 0 - S.pressure) * S.settings 2 / 100) (a := -S.settings 3) (b := S.settings 3), wit_hold]
      · rw [Int32.lt_iff_toInt_lt, iz.2.2.2.1]
        have := hs.2.1.2
        omega
      · rw [Int32.lt_iff_toInt_lt, Int32.toInt_neg]
        have h1 := hs.1
        unfold rng at h1
        rw [Int.bmod_eq_of_le (by omega) (by omega)]
        omega
    rw [e] at hr
    clear e hi hs hh
    (refine nx_ok C (cuts := cut_X7_regulate) 1000 _ _ _ _ ?_; simp only [w_X7_regulate, ops_eq, xst_eq, call_eq, oK_eq, Option.toList_some, Option.toList_none, List.cons_append, List.nil_append, List.length_cons, List.length_nil, true_and, and_true, Nat.reduceAdd, aW_F, aW_A, aW_P, aW_w, abs_eq, O_asti_eq, v170, cl_eq, ST_id, MT_gs, ST_gs, PT_gs, ZT_gs, NT_gs, ET_gs, se_X7_setting, se_X7_within, se_X7_of, se_X7_put, v19_eq, v8_eq, dv_eq, c, hv, get_eq, put_eq])
    ((repeat' (with_reducible first | apply And.intro | intro _)) <;> simp_all [ST_id, MT_gs, ST_gs, PT_gs, ZT_gs, NT_gs, ET_gs])
def spc_X7_regulate (S : ST) (M : MT) (fl : Bool)  (K : Option Value → QT → Prop) : Prop := (S.P.inv ∧ setOk S.settings) ∧ K (none) ((S.adjust, M, fl))
def sp_X7_regulate : Sp QT := fun av q K => match av with
  | [.ref 0] => spc_X7_regulate q.1 q.2.1 q.2.2  K
  | _ => False
theorem se_X7_regulate (S : ST) (M : MT) (fl : Bool)  (K : Option Value → QT → Prop) : sp_X7_regulate [.ref 0] (S, M, fl) K = ((S.P.inv ∧ setOk S.settings) ∧ K (none) ((S.adjust, M, fl))) := rfl
theorem spok_X7_regulate : SpOk yX7_regulate cX7_regulate 3 none 1 aW sp_X7_regulate := by
  intro av q K h
  unfold sp_X7_regulate at h
  split at h
  · refine ⟨_, _, ?_, con_X7_regulate q.1 q.2.1 q.2.2  h.1, h.2⟩; trivial
  · exact h.elim
def ST.cset (S : ST) (w x : Int32) : ST := if w = 10 then S.sToStart x else if w = 11 then S.sToStop x else S.sToSleep x
def ST.cget (S : ST) (w : Int32) : Int32 := if w = 10 then S.toStart else if w = 11 then S.toStop else S.toSleep
theorem cset_eq : (∀ (S : ST) (x : Int32), S.cset 10 x = S.sToStart x) ∧ (∀ (S : ST) (x : Int32), S.cset 11 x = S.sToStop x) ∧ (∀ (S : ST) (x : Int32), S.cset 12 x = S.sToSleep x) ∧ (∀ (S : ST), S.cget 10 = S.toStart) ∧ (∀ (S : ST), S.cget 11 = S.toStop) ∧ (∀ (S : ST), S.cget 12 = S.toSleep) := ⟨fun _ _ => rfl, fun _ _ => rfl, fun _ _ => rfl, fun _ => rfl, fun _ => rfl, fun _ => rfl⟩
def cod_X7_counts : List (Nat × Op QT) := [(0, O_aload 0 1), (1, O_getf aW 7 0), (4, O_iload 1 1), (5, O_iload 2 1), (6, O_if_eq 20), (9, O_aload 0 1), (10, O_getf aW 7 0), (13, O_iload 1 1), (14, O_ald aW 0), (15, O_int 1 1), (16, O_iadd), (17, O_goto 21), (20, O_int 0 1), (21, O_asti aW aW_wi), (22, O_vret)]
abbrev cut_X7_counts : List Nat := []
set_option maxRecDepth 100000 in
theorem okc_X7_counts {E : En} (F : Fx E RX7 cX7_counts 3 0) (G : Fr E none) : CodOk E aW cod_X7_counts := by
  unfold CodOk cod_X7_counts
  refine List.forall_mem_cons.mpr ⟨ok_aload_n F dX7_counts_0 rfl (by decide), ?_⟩
  refine List.forall_mem_cons.mpr ⟨ok_getf F flX7_7 dX7_counts_1 (by decide), ?_⟩
  refine List.forall_mem_cons.mpr ⟨ok_iload_n F dX7_counts_4 rfl (by decide), ?_⟩
  refine List.forall_mem_cons.mpr ⟨ok_iload_n F dX7_counts_5 rfl (by decide), ?_⟩
  refine List.forall_mem_cons.mpr ⟨ok_if_eq F dX7_counts_6 (by decide) (by decide) (by decide), ?_⟩
  refine List.forall_mem_cons.mpr ⟨ok_aload_n F dX7_counts_9 rfl (by decide), ?_⟩
  refine List.forall_mem_cons.mpr ⟨ok_getf F flX7_7 dX7_counts_10 (by decide), ?_⟩
  refine List.forall_mem_cons.mpr ⟨ok_iload_n F dX7_counts_13 rfl (by decide), ?_⟩
  refine List.forall_mem_cons.mpr ⟨ok_iald F dX7_counts_14 (by decide), ?_⟩
  refine List.forall_mem_cons.mpr ⟨ok_iconst F dX7_counts_15 (by decide) (by decide), ?_⟩
  refine List.forall_mem_cons.mpr ⟨ok_iadd F dX7_counts_16 (by decide), ?_⟩
  refine List.forall_mem_cons.mpr ⟨ok_goto F dX7_counts_17 (by decide) (by decide) (by decide), ?_⟩
  refine List.forall_mem_cons.mpr ⟨ok_iconst F dX7_counts_20 (by decide) (by decide), ?_⟩
  refine List.forall_mem_cons.mpr ⟨ok_asti F aW_wok dX7_counts_21 (by decide), ?_⟩
  refine List.forall_mem_cons.mpr ⟨ok_vret F G dX7_counts_22 (by decide), ?_⟩
  exact fun _ h => absurd h List.not_mem_nil
set_option maxRecDepth 100000 in
theorem w_X7_counts : (∀ (K : Kt QT) (n : Nat) (L : xL) (st : List Value) (S : QT), nx cod_X7_counts cut_X7_counts K (n + 1) 0 L st S = (O_aload 0 1) (nx cod_X7_counts cut_X7_counts K n) 0 L st S) ∧
  (∀ (K : Kt QT) (n : Nat) (L : xL) (st : List Value) (S : QT), nx cod_X7_counts cut_X7_counts K (n + 1) 1 L st S = (O_getf aW 7 0) (nx cod_X7_counts cut_X7_counts K n) 1 L st S) ∧
  (∀ (K : Kt QT) (n : Nat) (L : xL) (st : List Value) (S : QT), nx cod_X7_counts cut_X7_counts K (n + 1) 4 L st S = (O_iload 1 1) (nx cod_X7_counts cut_X7_counts K n) 4 L st S) ∧
  (∀ (K : Kt QT) (n : Nat) (L : xL) (st : List Value) (S : QT), nx cod_X7_counts cut_X7_counts K (n + 1) 5 L st S = (O_iload 2 1) (nx cod_X7_counts cut_X7_counts K n) 5 L st S) ∧
  (∀ (K : Kt QT) (n : Nat) (L : xL) (st : List Value) (S : QT), nx cod_X7_counts cut_X7_counts K (n + 1) 6 L st S = (O_if_eq 20) (nx cod_X7_counts cut_X7_counts K n) 6 L st S) ∧
  (∀ (K : Kt QT) (n : Nat) (L : xL) (st : List Value) (S : QT), nx cod_X7_counts cut_X7_counts K (n + 1) 9 L st S = (O_aload 0 1) (nx cod_X7_counts cut_X7_counts K n) 9 L st S) ∧
  (∀ (K : Kt QT) (n : Nat) (L : xL) (st : List Value) (S : QT), nx cod_X7_counts cut_X7_counts K (n + 1) 10 L st S = (O_getf aW 7 0) (nx cod_X7_counts cut_X7_counts K n) 10 L st S) ∧
  (∀ (K : Kt QT) (n : Nat) (L : xL) (st : List Value) (S : QT), nx cod_X7_counts cut_X7_counts K (n + 1) 13 L st S = (O_iload 1 1) (nx cod_X7_counts cut_X7_counts K n) 13 L st S) ∧
  (∀ (K : Kt QT) (n : Nat) (L : xL) (st : List Value) (S : QT), nx cod_X7_counts cut_X7_counts K (n + 1) 14 L st S = (O_ald aW 0) (nx cod_X7_counts cut_X7_counts K n) 14 L st S) ∧
  (∀ (K : Kt QT) (n : Nat) (L : xL) (st : List Value) (S : QT), nx cod_X7_counts cut_X7_counts K (n + 1) 15 L st S = (O_int 1 1) (nx cod_X7_counts cut_X7_counts K n) 15 L st S) ∧
  (∀ (K : Kt QT) (n : Nat) (L : xL) (st : List Value) (S : QT), nx cod_X7_counts cut_X7_counts K (n + 1) 16 L st S = (O_iadd) (nx cod_X7_counts cut_X7_counts K n) 16 L st S) ∧
  (∀ (K : Kt QT) (n : Nat) (L : xL) (st : List Value) (S : QT), nx cod_X7_counts cut_X7_counts K (n + 1) 17 L st S = (O_goto 21) (nx cod_X7_counts cut_X7_counts K n) 17 L st S) ∧
  (∀ (K : Kt QT) (n : Nat) (L : xL) (st : List Value) (S : QT), nx cod_X7_counts cut_X7_counts K (n + 1) 20 L st S = (O_int 0 1) (nx cod_X7_counts cut_X7_counts K n) 20 L st S) ∧
  (∀ (K : Kt QT) (n : Nat) (L : xL) (st : List Value) (S : QT), nx cod_X7_counts cut_X7_counts K (n + 1) 21 L st S = (O_asti aW aW_wi) (nx cod_X7_counts cut_X7_counts K n) 21 L st S) ∧
  (∀ (K : Kt QT) (n : Nat) (L : xL) (st : List Value) (S : QT), nx cod_X7_counts cut_X7_counts K (n + 1) 22 L st S = (O_vret) (nx cod_X7_counts cut_X7_counts K n) 22 L st S) ∧
  (∀ (K : Kt QT) (n : Nat) (L : xL) (st : List Value) (S : QT), nx cod_X7_counts cut_X7_counts K (n + 1) 100000 L st S = K 100000 L st S) := by
  repeat' apply And.intro
  all_goals (intros; rfl)
set_option maxRecDepth 100000 in
theorem mk_X7_counts {P P' : QT} {r : Option Value} {p0 : Int32} {p1 : Int32} (body : ∀ E : En, CodOk E aW cod_X7_counts → Gd E aW 100000 [] r.toList P' → Gd E aW 0 [some (.ref 0), some (.int p0), some (.int p1)] [] P) : Con yX7_counts cX7_counts 3 none 0 aW [.ref 0, .int p0, .int p1] P r P' :=
  Con.of (by decide) ((aW_len P').trans (aW_len P).symm) rfl (Nat.le_of_ble_eq_true rfl) (fun E F G hr => body E (okc_X7_counts F G) hr)
set_option maxRecDepth 10000 in
theorem con_X7_counts (S : ST) (M : MT) (fl : Bool) (w : Int32) (g : Int32) (hp : w = 10 ∨ w = 11 ∨ w = 12) : Con yX7_counts cX7_counts 3 none 0 aW [.ref 0, .int w, .int g] (S, M, fl) (none) ((S.cset w (if g = 0 then 0 else S.cget w + 1), M, fl)) := by
  refine mk_X7_counts (fun E C hr => ?_)
  by_cases c : g = 0
  · rcases hp with rfl | rfl | rfl
    · simp only [cset_eq, c, if_true] at hr
      (refine nx_ok C (cuts := cut_X7_counts) 1000 _ _ _ _ ?_; simp only [w_X7_counts, ops_eq, xst_eq, call_eq, oK_eq, Option.toList_some, Option.toList_none, List.cons_append, List.nil_append, List.length_cons, List.length_nil, true_and, and_true, Nat.reduceAdd, aW_F, aW_A, aW_P, aW_w, abs_eq, O_asti_eq, v170, cl_eq, ST_id, MT_gs, ST_gs, PT_gs, ZT_gs, NT_gs, ET_gs, c])
      ((repeat' (with_reducible first | apply And.intro | intro _)) <;> simp_all [ST_id, MT_gs, ST_gs, PT_gs, ZT_gs, NT_gs, ET_gs])
    · simp only [cset_eq, c, if_true] at hr
      (refine nx_ok C (cuts := cut_X7_counts) 1000 _ _ _ _ ?_; simp only [w_X7_counts, ops_eq, xst_eq, call_eq, oK_eq, Option.toList_some, Option.toList_none, List.cons_append, List.nil_append, List.length_cons, List.length_nil, true_and, and_true, Nat.reduceAdd, aW_F, aW_A, aW_P, aW_w, abs_eq, O_asti_eq, v170, cl_eq, ST_id, MT_gs, ST_gs, PT_gs, ZT_gs, NT_gs, ET_gs, c])
      ((repeat' (with_reducible first | apply And.intro | intro _)) <;> simp_all [ST_id, MT_gs, ST_gs, PT_gs, ZT_gs, NT_gs, ET_gs])
    · simp only [cset_eq, c, if_true] at hr
      (refine nx_ok C (cuts := cut_X7_counts) 1000 _ _ _ _ ?_; simp only [w_X7_counts, ops_eq, xst_eq, call_eq, oK_eq, Option.toList_some, Option.toList_none, List.cons_append, List.nil_append, List.length_cons, List.length_nil, true_and, and_true, Nat.reduceAdd, aW_F, aW_A, aW_P, aW_w, abs_eq, O_asti_eq, v170, cl_eq, ST_id, MT_gs, ST_gs, PT_gs, ZT_gs, NT_gs, ET_gs, c])
      ((repeat' (with_reducible first | apply And.intro | intro _)) <;> simp_all [ST_id, MT_gs, ST_gs, PT_gs, ZT_gs, NT_gs, ET_gs])
  · rcases hp with rfl | rfl | rfl
    · simp only [cset_eq, c, if_false] at hr
      (refine nx_ok C (cuts := cut_X7_counts) 1000 _ _ _ _ ?_; simp only [w_X7_counts, ops_eq, xst_eq, call_eq, oK_eq, Option.toList_some, Option.toList_none, List.cons_append, List.nil_append, List.length_cons, List.length_nil, true_and, and_true, Nat.reduceAdd, aW_F, aW_A, aW_P, aW_w, abs_eq, O_asti_eq, v170, cl_eq, ST_id, MT_gs, ST_gs, PT_gs, ZT_gs, NT_gs, ET_gs, c])
      ((repeat' (with_reducible first | apply And.intro | intro _)) <;> simp_all [ST_id, MT_gs, ST_gs, PT_gs, ZT_gs, NT_gs, ET_gs])
    · simp only [cset_eq, c, if_false] at hr
      (refine nx_ok C (cuts := cut_X7_counts) 1000 _ _ _ _ ?_; simp only [w_X7_counts, ops_eq, xst_eq, call_eq, oK_eq, Option.toList_some, Option.toList_none, List.cons_append, List.nil_append, List.length_cons, List.length_nil, true_and, and_true, Nat.reduceAdd, aW_F, aW_A, aW_P, aW_w, abs_eq, O_asti_eq, v170, cl_eq, ST_id, MT_gs, ST_gs, PT_gs, ZT_gs, NT_gs, ET_gs, c])
      ((repeat' (with_reducible first | apply And.intro | intro _)) <;> simp_all [ST_id, MT_gs, ST_gs, PT_gs, ZT_gs, NT_gs, ET_gs])
    · simp only [cset_eq, c, if_false] at hr
      (refine nx_ok C (cuts := cut_X7_counts) 1000 _ _ _ _ ?_; simp only [w_X7_counts, ops_eq, xst_eq, call_eq, oK_eq, Option.toList_some, Option.toList_none, List.cons_append, List.nil_append, List.length_cons, List.length_nil, true_and, and_true, Nat.reduceAdd, aW_F, aW_A, aW_P, aW_w, abs_eq, O_asti_eq, v170, cl_eq, ST_id, MT_gs, ST_gs, PT_gs, ZT_gs, NT_gs, ET_gs, c])
      ((repeat' (with_reducible first | apply And.intro | intro _)) <;> simp_all [ST_id, MT_gs, ST_gs, PT_gs, ZT_gs, NT_gs, ET_gs])
def spc_X7_counts (S : ST) (M : MT) (fl : Bool) (w : Int32) (g : Int32) (K : Option Value → QT → Prop) : Prop := (w = 10 ∨ w = 11 ∨ w = 12) ∧ K (none) ((S.cset w (if g = 0 then 0 else S.cget w + 1), M, fl))
def sp_X7_counts : Sp QT := fun av q K => match av with
  | [.ref 0, .int w, .int g] => spc_X7_counts q.1 q.2.1 q.2.2 w g K
  | _ => False
theorem se_X7_counts (S : ST) (M : MT) (fl : Bool) (w : Int32) (g : Int32) (K : Option Value → QT → Prop) : sp_X7_counts [.ref 0, .int w, .int g] (S, M, fl) K = ((w = 10 ∨ w = 11 ∨ w = 12) ∧ K (none) ((S.cset w (if g = 0 then 0 else S.cget w + 1), M, fl))) := rfl
theorem spok_X7_counts : SpOk yX7_counts cX7_counts 3 none 0 aW sp_X7_counts := by
  intro av q K h
  unfold sp_X7_counts at h
  split at h
  · rename_i w g; refine ⟨_, _, ?_, con_X7_counts q.1 q.2.1 q.2.2 w g h.1, h.2⟩; trivial
  · exact h.elim
def cod_X7_speedOfVariable : List (Nat × Op QT) := [(0, O_aload 0 1), (1, O_aload 0 1), (2, O_getf aW 7 0), (5, O_int 4 1), (6, O_ald aW 0), (7, O_int 4 1), (8, O_callV 2 0 (fun S => S) (fun _ S' => S') sp_X7_of), (11, O_iret)]
abbrev cut_X7_speedOfVariable : List Nat := []
set_option maxRecDepth 100000 in
theorem okc_X7_speedOfVariable {E : En} (F : Fx E RX7 cX7_speedOfVariable 1 1) (G : Fr E (some .int)) : CodOk E aW cod_X7_speedOfVariable := by
  unfold CodOk cod_X7_speedOfVariable
  refine List.forall_mem_cons.mpr ⟨ok_aload_n F dX7_speedOfVariable_0 rfl (by decide), ?_⟩
  refine List.forall_mem_cons.mpr ⟨ok_aload_n F dX7_speedOfVariable_1 rfl (by decide), ?_⟩
  refine List.forall_mem_cons.mpr ⟨ok_getf F flX7_7 dX7_speedOfVariable_2 (by decide), ?_⟩
  refine List.forall_mem_cons.mpr ⟨ok_iconst F dX7_speedOfVariable_5 (by decide) (by decide), ?_⟩
  refine List.forall_mem_cons.mpr ⟨ok_iald F dX7_speedOfVariable_6 (by decide), ?_⟩
  refine List.forall_mem_cons.mpr ⟨ok_iconst F dX7_speedOfVariable_7 (by decide) (by decide), ?_⟩
  refine List.forall_mem_cons.mpr ⟨ok_callV F spok_X7_of (ln_id aW) rcv_aW (by decide +kernel) (by decide) dX7_speedOfVariable_8 (by decide), ?_⟩
  refine List.forall_mem_cons.mpr ⟨ok_iret F G dX7_speedOfVariable_11 (by decide), ?_⟩
  exact fun _ h => absurd h List.not_mem_nil
set_option maxRecDepth 100000 in
theorem w_X7_speedOfVariable : (∀ (K : Kt QT) (n : Nat) (L : xL) (st : List Value) (S : QT), nx cod_X7_speedOfVariable cut_X7_speedOfVariable K (n + 1) 0 L st S = (O_aload 0 1) (nx cod_X7_speedOfVariable cut_X7_speedOfVariable K n) 0 L st S) ∧
  (∀ (K : Kt QT) (n : Nat) (L : xL) (st : List Value) (S : QT), nx cod_X7_speedOfVariable cut_X7_speedOfVariable K (n + 1) 1 L st S = (O_aload 0 1) (nx cod_X7_speedOfVariable cut_X7_speedOfVariable K n) 1 L st S) ∧
  (∀ (K : Kt QT) (n : Nat) (L : xL) (st : List Value) (S : QT), nx cod_X7_speedOfVariable cut_X7_speedOfVariable K (n + 1) 2 L st S = (O_getf aW 7 0) (nx cod_X7_speedOfVariable cut_X7_speedOfVariable K n) 2 L st S) ∧
  (∀ (K : Kt QT) (n : Nat) (L : xL) (st : List Value) (S : QT), nx cod_X7_speedOfVariable cut_X7_speedOfVariable K (n + 1) 5 L st S = (O_int 4 1) (nx cod_X7_speedOfVariable cut_X7_speedOfVariable K n) 5 L st S) ∧
  (∀ (K : Kt QT) (n : Nat) (L : xL) (st : List Value) (S : QT), nx cod_X7_speedOfVariable cut_X7_speedOfVariable K (n + 1) 6 L st S = (O_ald aW 0) (nx cod_X7_speedOfVariable cut_X7_speedOfVariable K n) 6 L st S) ∧
  (∀ (K : Kt QT) (n : Nat) (L : xL) (st : List Value) (S : QT), nx cod_X7_speedOfVariable cut_X7_speedOfVariable K (n + 1) 7 L st S = (O_int 4 1) (nx cod_X7_speedOfVariable cut_X7_speedOfVariable K n) 7 L st S) ∧
  (∀ (K : Kt QT) (n : Nat) (L : xL) (st : List Value) (S : QT), nx cod_X7_speedOfVariable cut_X7_speedOfVariable K (n + 1) 8 L st S = (O_callV 2 0 (fun S => S) (fun _ S' => S') sp_X7_of) (nx cod_X7_speedOfVariable cut_X7_speedOfVariable K n) 8 L st S) ∧
  (∀ (K : Kt QT) (n : Nat) (L : xL) (st : List Value) (S : QT), nx cod_X7_speedOfVariable cut_X7_speedOfVariable K (n + 1) 11 L st S = (O_iret) (nx cod_X7_speedOfVariable cut_X7_speedOfVariable K n) 11 L st S) ∧
  (∀ (K : Kt QT) (n : Nat) (L : xL) (st : List Value) (S : QT), nx cod_X7_speedOfVariable cut_X7_speedOfVariable K (n + 1) 100000 L st S = K 100000 L st S) := by
  repeat' apply And.intro
  all_goals (intros; rfl)
set_option maxRecDepth 100000 in
theorem mk_X7_speedOfVariable {P P' : QT} {r : Option Value}  (body : ∀ E : En, CodOk E aW cod_X7_speedOfVariable → Gd E aW 100000 [] r.toList P' → Gd E aW 0 [some (.ref 0)] [] P) : Con yX7_speedOfVariable cX7_speedOfVariable 1 (some .int) 1 aW [.ref 0] P r P' :=
  Con.of (by decide) ((aW_len P').trans (aW_len P).symm) rfl (Nat.le_of_ble_eq_true rfl) (fun E F G hr => body E (okc_X7_speedOfVariable F G) hr)
set_option maxRecDepth 10000 in
theorem con_X7_speedOfVariable (S : ST) (M : MT) (fl : Bool)  (hp : vp_in S.P.vrb 6) : Con yX7_speedOfVariable cX7_speedOfVariable 1 (some .int) 1 aW [.ref 0] (S, M, fl) (some (.int (S.P.speeds S.P.vrb.toNatClampNeg))) ((S, M, fl)) := by
  refine mk_X7_speedOfVariable (fun E C hr => ?_)
  (refine nx_ok C (cuts := cut_X7_speedOfVariable) 1000 _ _ _ _ ?_; simp only [w_X7_speedOfVariable, ops_eq, xst_eq, call_eq, oK_eq, Option.toList_some, Option.toList_none, List.cons_append, List.nil_append, List.length_cons, List.length_nil, true_and, and_true, Nat.reduceAdd, aW_F, aW_A, aW_P, aW_w, abs_eq, O_asti_eq, v170, cl_eq, ST_id, MT_gs, ST_gs, PT_gs, ZT_gs, NT_gs, ET_gs, se_X7_of, v8_eq, hp, get_eq])
  ((repeat' (with_reducible first | apply And.intro | intro _)) <;> simp_all [ST_id, MT_gs, ST_gs, PT_gs, ZT_gs, NT_gs, ET_gs])
def spc_X7_speedOfVariable (S : ST) (M : MT) (fl : Bool)  (K : Option Value → QT → Prop) : Prop := (vp_in S.P.vrb 6) ∧ K (some (.int (S.P.speeds S.P.vrb.toNatClampNeg))) ((S, M, fl))
def sp_X7_speedOfVariable : Sp QT := fun av q K => match av with
  | [.ref 0] => spc_X7_speedOfVariable q.1 q.2.1 q.2.2  K
  | _ => False
theorem se_X7_speedOfVariable (S : ST) (M : MT) (fl : Bool)  (K : Option Value → QT → Prop) : sp_X7_speedOfVariable [.ref 0] (S, M, fl) K = ((vp_in S.P.vrb 6) ∧ K (some (.int (S.P.speeds S.P.vrb.toNatClampNeg))) ((S, M, fl))) := rfl
theorem spok_X7_speedOfVariable : SpOk yX7_speedOfVariable cX7_speedOfVariable 1 (some .int) 1 aW sp_X7_speedOfVariable := by
  intro av q K h
  unfold sp_X7_speedOfVariable at h
  split at h
  · refine ⟨_, _, ?_, con_X7_speedOfVariable q.1 q.2.1 q.2.2  h.1, h.2⟩; trivial
  · exact h.elim
def cod_X7_beginAnew : List (Nat × Op QT) := [(0, O_aload 0 1), (1, O_getf aW 7 0), (4, O_int 10 2), (6, O_int 0 1), (7, O_asti aW aW_wi), (8, O_aload 0 1), (9, O_getf aW 7 0), (12, O_int 11 2), (14, O_int 0 1), (15, O_asti aW aW_wi), (16, O_aload 0 1), (17, O_getf aW 7 0), (20, O_int 12 2), (22, O_int 0 1), (23, O_asti aW aW_wi), (24, O_vret)]
abbrev cut_X7_beginAnew : List Nat := []
set_option maxRecDepth 100000 in
theorem okc_X7_beginAnew {E : En} (F : Fx E RX7 cX7_beginAnew 1 0) (G : Fr E none) : CodOk E aW cod_X7_beginAnew := by
  unfold CodOk cod_X7_beginAnew
  refine List.forall_mem_cons.mpr ⟨ok_aload_n F dX7_beginAnew_0 rfl (by decide), ?_⟩
  refine List.forall_mem_cons.mpr ⟨ok_getf F flX7_7 dX7_beginAnew_1 (by decide), ?_⟩
  refine List.forall_mem_cons.mpr ⟨ok_bipush F dX7_beginAnew_4 (by decide) (by decide), ?_⟩
  refine List.forall_mem_cons.mpr ⟨ok_iconst F dX7_beginAnew_6 (by decide) (by decide), ?_⟩
  refine List.forall_mem_cons.mpr ⟨ok_asti F aW_wok dX7_beginAnew_7 (by decide), ?_⟩
  refine List.forall_mem_cons.mpr ⟨ok_aload_n F dX7_beginAnew_8 rfl (by decide), ?_⟩
  refine List.forall_mem_cons.mpr ⟨ok_getf F flX7_7 dX7_beginAnew_9 (by decide), ?_⟩
  refine List.forall_mem_cons.mpr ⟨ok_bipush F dX7_beginAnew_12 (by decide) (by decide), ?_⟩
  refine List.forall_mem_cons.mpr ⟨ok_iconst F dX7_beginAnew_14 (by decide) (by decide), ?_⟩
  refine List.forall_mem_cons.mpr ⟨ok_asti F aW_wok dX7_beginAnew_15 (by decide), ?_⟩
  refine List.forall_mem_cons.mpr ⟨ok_aload_n F dX7_beginAnew_16 rfl (by decide), ?_⟩
  refine List.forall_mem_cons.mpr ⟨ok_getf F flX7_7 dX7_beginAnew_17 (by decide), ?_⟩
  refine List.forall_mem_cons.mpr ⟨ok_bipush F dX7_beginAnew_20 (by decide) (by decide), ?_⟩
  refine List.forall_mem_cons.mpr ⟨ok_iconst F dX7_beginAnew_22 (by decide) (by decide), ?_⟩
  refine List.forall_mem_cons.mpr ⟨ok_asti F aW_wok dX7_beginAnew_23 (by decide), ?_⟩
  refine List.forall_mem_cons.mpr ⟨ok_vret F G dX7_beginAnew_24 (by decide), ?_⟩
  exact fun _ h => absurd h List.not_mem_nil
set_option maxRecDepth 100000 in
theorem w_X7_beginAnew : (∀ (K : Kt QT) (n : Nat) (L : xL) (st : List Value) (S : QT), nx cod_X7_beginAnew cut_X7_beginAnew K (n + 1) 0 L st S = (O_aload 0 1) (nx cod_X7_beginAnew cut_X7_beginAnew K n) 0 L st S) ∧
  (∀ (K : Kt QT) (n : Nat) (L : xL) (st : List Value) (S : QT), nx cod_X7_beginAnew cut_X7_beginAnew K (n + 1) 1 L st S = (O_getf aW 7 0) (nx cod_X7_beginAnew cut_X7_beginAnew K n) 1 L st S) ∧
  (∀ (K : Kt QT) (n : Nat) (L : xL) (st : List Value) (S : QT), nx cod_X7_beginAnew cut_X7_beginAnew K (n + 1) 4 L st S = (O_int 10 2) (nx cod_X7_beginAnew cut_X7_beginAnew K n) 4 L st S) ∧
  (∀ (K : Kt QT) (n : Nat) (L : xL) (st : List Value) (S : QT), nx cod_X7_beginAnew cut_X7_beginAnew K (n + 1) 6 L st S = (O_int 0 1) (nx cod_X7_beginAnew cut_X7_beginAnew K n) 6 L st S) ∧
  (∀ (K : Kt QT) (n : Nat) (L : xL) (st : List Value) (S : QT), nx cod_X7_beginAnew cut_X7_beginAnew K (n + 1) 7 L st S = (O_asti aW aW_wi) (nx cod_X7_beginAnew cut_X7_beginAnew K n) 7 L st S) ∧
  (∀ (K : Kt QT) (n : Nat) (L : xL) (st : List Value) (S : QT), nx cod_X7_beginAnew cut_X7_beginAnew K (n + 1) 8 L st S = (O_aload 0 1) (nx cod_X7_beginAnew cut_X7_beginAnew K n) 8 L st S) ∧
  (∀ (K : Kt QT) (n : Nat) (L : xL) (st : List Value) (S : QT), nx cod_X7_beginAnew cut_X7_beginAnew K (n + 1) 9 L st S = (O_getf aW 7 0) (nx cod_X7_beginAnew cut_X7_beginAnew K n) 9 L st S) ∧
  (∀ (K : Kt QT) (n : Nat) (L : xL) (st : List Value) (S : QT), nx cod_X7_beginAnew cut_X7_beginAnew K (n + 1) 12 L st S = (O_int 11 2) (nx cod_X7_beginAnew cut_X7_beginAnew K n) 12 L st S) ∧
  (∀ (K : Kt QT) (n : Nat) (L : xL) (st : List Value) (S : QT), nx cod_X7_beginAnew cut_X7_beginAnew K (n + 1) 14 L st S = (O_int 0 1) (nx cod_X7_beginAnew cut_X7_beginAnew K n) 14 L st S) ∧
  (∀ (K : Kt QT) (n : Nat) (L : xL) (st : List Value) (S : QT), nx cod_X7_beginAnew cut_X7_beginAnew K (n + 1) 15 L st S = (O_asti aW aW_wi) (nx cod_X7_beginAnew cut_X7_beginAnew K n) 15 L st S) ∧
  (∀ (K : Kt QT) (n : Nat) (L : xL) (st : List Value) (S : QT), nx cod_X7_beginAnew cut_X7_beginAnew K (n + 1) 16 L st S = (O_aload 0 1) (nx cod_X7_beginAnew cut_X7_beginAnew K n) 16 L st S) ∧
  (∀ (K : Kt QT) (n : Nat) (L : xL) (st : List Value) (S : QT), nx cod_X7_beginAnew cut_X7_beginAnew K (n + 1) 17 L st S = (O_getf aW 7 0) (nx cod_X7_beginAnew cut_X7_beginAnew K n) 17 L st S) ∧
  (∀ (K : Kt QT) (n : Nat) (L : xL) (st : List Value) (S : QT), nx cod_X7_beginAnew cut_X7_beginAnew K (n + 1) 20 L st S = (O_int 12 2) (nx cod_X7_beginAnew cut_X7_beginAnew K n) 20 L st S) ∧
  (∀ (K : Kt QT) (n : Nat) (L : xL) (st : List Value) (S : QT), nx cod_X7_beginAnew cut_X7_beginAnew K (n + 1) 22 L st S = (O_int 0 1) (nx cod_X7_beginAnew cut_X7_beginAnew K n) 22 L st S) ∧
  (∀ (K : Kt QT) (n : Nat) (L : xL) (st : List Value) (S : QT), nx cod_X7_beginAnew cut_X7_beginAnew K (n + 1) 23 L st S = (O_asti aW aW_wi) (nx cod_X7_beginAnew cut_X7_beginAnew K n) 23 L st S) ∧
  (∀ (K : Kt QT) (n : Nat) (L : xL) (st : List Value) (S : QT), nx cod_X7_beginAnew cut_X7_beginAnew K (n + 1) 24 L st S = (O_vret) (nx cod_X7_beginAnew cut_X7_beginAnew K n) 24 L st S) ∧
  (∀ (K : Kt QT) (n : Nat) (L : xL) (st : List Value) (S : QT), nx cod_X7_beginAnew cut_X7_beginAnew K (n + 1) 100000 L st S = K 100000 L st S) := by
  repeat' apply And.intro
  all_goals (intros; rfl)
set_option maxRecDepth 100000 in
theorem mk_X7_beginAnew {P P' : QT} {r : Option Value}  (body : ∀ E : En, CodOk E aW cod_X7_beginAnew → Gd E aW 100000 [] r.toList P' → Gd E aW 0 [some (.ref 0)] [] P) : Con yX7_beginAnew cX7_beginAnew 1 none 0 aW [.ref 0] P r P' :=
  Con.of (by decide) ((aW_len P').trans (aW_len P).symm) rfl (Nat.le_of_ble_eq_true rfl) (fun E F G hr => body E (okc_X7_beginAnew F G) hr)
set_option maxRecDepth 10000 in
theorem con_X7_beginAnew (S : ST) (M : MT) (fl : Bool)  : Con yX7_beginAnew cX7_beginAnew 1 none 0 aW [.ref 0] (S, M, fl) (none) ((S.anew, M, fl)) := by
  refine mk_X7_beginAnew (fun E C hr => ?_)
  (refine nx_ok C (cuts := cut_X7_beginAnew) 1000 _ _ _ _ ?_; simp only [w_X7_beginAnew, ops_eq, xst_eq, call_eq, oK_eq, Option.toList_some, Option.toList_none, List.cons_append, List.nil_append, List.length_cons, List.length_nil, true_and, and_true, Nat.reduceAdd, aW_F, aW_A, aW_P, aW_w, abs_eq, O_asti_eq, v170, cl_eq, ST_id, MT_gs, ST_gs, PT_gs, ZT_gs, NT_gs, ET_gs])
  ((repeat' (with_reducible first | apply And.intro | intro _)) <;> simp_all [ST.anew, ST_id, MT_gs, ST_gs, PT_gs, ZT_gs, NT_gs, ET_gs])
def spc_X7_beginAnew (S : ST) (M : MT) (fl : Bool)  (K : Option Value → QT → Prop) : Prop := K (none) ((S.anew, M, fl))
def sp_X7_beginAnew : Sp QT := fun av q K => match av with
  | [.ref 0] => spc_X7_beginAnew q.1 q.2.1 q.2.2  K
  | _ => False
theorem se_X7_beginAnew (S : ST) (M : MT) (fl : Bool)  (K : Option Value → QT → Prop) : sp_X7_beginAnew [.ref 0] (S, M, fl) K = (K (none) ((S.anew, M, fl))) := rfl
theorem spok_X7_beginAnew : SpOk yX7_beginAnew cX7_beginAnew 1 none 0 aW sp_X7_beginAnew := by
  intro av q K h
  unfold sp_X7_beginAnew at h
  split at h
  · refine ⟨_, _, ?_, con_X7_beginAnew q.1 q.2.1 q.2.2 , h⟩; trivial
  · exact h.elim
theorem cnt_facts {S : ST} (h : S.P.inv) :
    S.gStart = (decide (0 < S.P.running) && (decide (S.P.vrb = -1 ∨ S.P.speeds S.P.vrb.toNatClampNeg = 1000) && decide (S.pressure < S.settings 0 - S.settings 1))) ∧
    S.gStop = (decide (0 < S.P.running) && (decide (S.P.vrb = -1 ∨ S.P.speeds S.P.vrb.toNatClampNeg = S.settings 4) && decide (S.settings 0 + S.settings 1 < S.pressure))) ∧
    S.gSleep = (decide (S.P.running = 1 ∧ ¬ S.P.vrb = -1) && (decide (S.P.vrb = -1 ∨ S.P.speeds S.P.vrb.toNatClampNeg = S.settings 4) && decide (S.supply < S.settings 7))) := by
  unfold ST.gStart ST.gStop ST.gSleep ST.wo ST.low ST.high PT.vAt
  by_cases c : S.P.vrb = -1
  · have c2 := (PT.vok_has h).mpr c
    simp only [c2, Bool.false_and, decide_true]
    simp only [c]
    refine ⟨?_, ?_, ?_⟩ <;> simp [and_comm]
  · have c2 : S.P.has S.P.vrb = true := by
      cases z : S.P.has S.P.vrb
      · exact absurd ((PT.vok_has h).mp z) c
      · rfl
    simp only [c2, Bool.true_and]
    refine ⟨?_, ?_, ?_⟩
    · simp [c, and_comm]
    · simp [c, and_comm, Bool.and_comm]
    · simp [c, and_comm, and_assoc]
