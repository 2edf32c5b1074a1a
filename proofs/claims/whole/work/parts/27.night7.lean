/-! ===== the reference: nights, the level, regulating ===== -/
theorem at_night {k : Nat} (hk : k < 7) : (127 : Int32) + nI k = nI (127 + k) ∧ vp_in (nI (127 + k)) 170 ∧ (nI (127 + k)).toNatClampNeg = 127 + k := ⟨by rw [show (127 : Int32) = nI 127 from rfl, nI_add], vp_in_nI (by omega) (by omega), nI_clamp (by omega)⟩
theorem abs_night (S : ST) {k : Nat} (hk : k < 7) : abs S (127 + k) = S.N.noted k := by
  unfold abs blk
  rw [if_neg (by omega), if_neg (by omega), if_neg (by omega), if_neg (by omega), if_neg (by omega), if_pos (by omega), show 127 + k - 127 = k by omega]
theorem wr_night (S : ST) {k : Nat} (hk : k < 7) (x : Int32) : wr S (127 + k) x = S.sN (S.N.sNoted (upd S.N.noted k x)) := by
  unfold wr
  rw [if_neg (by omega), if_neg (by omega), if_neg (by omega), if_neg (by omega), if_neg (by omega), show 127 + k - 127 = k by omega]
def cod_X7_middleNight : List (Nat × Op QT) := [(0, O_aload 0 1), (1, O_getf aW 7 0), (4, O_int 18 2), (6, O_ald aW 0), (7, O_istore 1 1), (8, O_int 0 1), (9, O_istore 2 1), (10, O_iload 2 1), (11, O_iload 1 1), (12, O_icmp_ge 134), (15, O_int 0 1), (16, O_istore 3 1), (17, O_int 0 1), (18, O_istore 4 2), (20, O_int 0 1), (21, O_istore 5 2), (23, O_iload 5 2), (25, O_iload 1 1), (26, O_icmp_ge 97), (29, O_iload 3 1), (30, O_aload 0 1), (31, O_getf aW 7 0), (34, O_int 127 2), (36, O_iload 5 2), (38, O_iadd), (39, O_ald aW 0), (40, O_aload 0 1), (41, O_getf aW 7 0), (44, O_int 127 2), (46, O_iload 2 1), (47, O_iadd), (48, O_ald aW 0), (49, O_icmp_ge 56), (52, O_int 1 1), (53, O_goto 57), (56, O_int 0 1), (57, O_iadd), (58, O_istore 3 1), (59, O_iload 4 2), (61, O_aload 0 1), (62, O_getf aW 7 0), (65, O_int 127 2), (67, O_iload 5 2), (69, O_iadd), (70, O_ald aW 0), (71, O_aload 0 1), (72, O_getf aW 7 0), (75, O_int 127 2), (77, O_iload 2 1), (78, O_iadd), (79, O_ald aW 0), (80, O_icmp_ne 87), (83, O_int 1 1), (84, O_goto 88), (87, O_int 0 1), (88, O_iadd), (89, O_istore 4 2), (91, O_iinc 5 1), (94, O_goto 23), (97, O_iload 3 1), (98, O_iload 1 1), (99, O_int 1 1), (100, O_isub), (101, O_int 2 1), (102, O_idiv), (103, O_icmp_gt 128), (106, O_iload 3 1), (107, O_iload 4 2), (109, O_iadd), (110, O_iload 1 1), (111, O_int 1 1), (112, O_isub), (113, O_int 2 1), (114, O_idiv), (115, O_icmp_le 128), (118, O_aload 0 1), (119, O_getf aW 7 0), (122, O_int 127 2), (124, O_iload 2 1), (125, O_iadd), (126, O_ald aW 0), (127, O_iret), (128, O_iinc 2 1), (131, O_goto 10), (134, O_int 0 1), (135, O_iret)]
abbrev cut_X7_middleNight : List Nat := [10, 23]
set_option maxRecDepth 100000 in
theorem okc_X7_middleNight {E : En} (F : Fx E RX7 cX7_middleNight 6 0) (G : Fr E (some .int)) : CodOk E aW cod_X7_middleNight := by
  unfold CodOk cod_X7_middleNight
  refine List.forall_mem_cons.mpr ⟨ok_aload_n F dX7_middleNight_0 rfl (by decide), ?_⟩
  refine List.forall_mem_cons.mpr ⟨ok_getf F flX7_7 dX7_middleNight_1 (by decide), ?_⟩
  refine List.forall_mem_cons.mpr ⟨ok_bipush F dX7_middleNight_4 (by decide) (by decide), ?_⟩
  refine List.forall_mem_cons.mpr ⟨ok_iald F dX7_middleNight_6 (by decide), ?_⟩
  refine List.forall_mem_cons.mpr ⟨ok_istore_n F dX7_middleNight_7 rfl (by decide) (by decide), ?_⟩
  refine List.forall_mem_cons.mpr ⟨ok_iconst F dX7_middleNight_8 (by decide) (by decide), ?_⟩
  refine List.forall_mem_cons.mpr ⟨ok_istore_n F dX7_middleNight_9 rfl (by decide) (by decide), ?_⟩
  refine List.forall_mem_cons.mpr ⟨ok_iload_n F dX7_middleNight_10 rfl (by decide), ?_⟩
  refine List.forall_mem_cons.mpr ⟨ok_iload_n F dX7_middleNight_11 rfl (by decide), ?_⟩
  refine List.forall_mem_cons.mpr ⟨ok_icmp_ge F dX7_middleNight_12 (by decide) (by decide) (by decide), ?_⟩
  refine List.forall_mem_cons.mpr ⟨ok_iconst F dX7_middleNight_15 (by decide) (by decide), ?_⟩
  refine List.forall_mem_cons.mpr ⟨ok_istore_n F dX7_middleNight_16 rfl (by decide) (by decide), ?_⟩
  refine List.forall_mem_cons.mpr ⟨ok_iconst F dX7_middleNight_17 (by decide) (by decide), ?_⟩
  refine List.forall_mem_cons.mpr ⟨ok_istore F dX7_middleNight_18 (by decide) (by decide), ?_⟩
  refine List.forall_mem_cons.mpr ⟨ok_iconst F dX7_middleNight_20 (by decide) (by decide), ?_⟩
  refine List.forall_mem_cons.mpr ⟨ok_istore F dX7_middleNight_21 (by decide) (by decide), ?_⟩
  refine List.forall_mem_cons.mpr ⟨ok_iload F dX7_middleNight_23 (by decide), ?_⟩
  refine List.forall_mem_cons.mpr ⟨ok_iload_n F dX7_middleNight_25 rfl (by decide), ?_⟩
  refine List.forall_mem_cons.mpr ⟨ok_icmp_ge F dX7_middleNight_26 (by decide) (by decide) (by decide), ?_⟩
  refine List.forall_mem_cons.mpr ⟨ok_iload_n F dX7_middleNight_29 rfl (by decide), ?_⟩
  refine List.forall_mem_cons.mpr ⟨ok_aload_n F dX7_middleNight_30 rfl (by decide), ?_⟩
  refine List.forall_mem_cons.mpr ⟨ok_getf F flX7_7 dX7_middleNight_31 (by decide), ?_⟩
  refine List.forall_mem_cons.mpr ⟨ok_bipush F dX7_middleNight_34 (by decide) (by decide), ?_⟩
  refine List.forall_mem_cons.mpr ⟨ok_iload F dX7_middleNight_36 (by decide), ?_⟩
  refine List.forall_mem_cons.mpr ⟨ok_iadd F dX7_middleNight_38 (by decide), ?_⟩
  refine List.forall_mem_cons.mpr ⟨ok_iald F dX7_middleNight_39 (by decide), ?_⟩
  refine List.forall_mem_cons.mpr ⟨ok_aload_n F dX7_middleNight_40 rfl (by decide), ?_⟩
  refine List.forall_mem_cons.mpr ⟨ok_getf F flX7_7 dX7_middleNight_41 (by decide), ?_⟩
  refine List.forall_mem_cons.mpr ⟨ok_bipush F dX7_middleNight_44 (by decide) (by decide), ?_⟩
  refine List.forall_mem_cons.mpr ⟨ok_iload_n F dX7_middleNight_46 rfl (by decide), ?_⟩
  refine List.forall_mem_cons.mpr ⟨ok_iadd F dX7_middleNight_47 (by decide), ?_⟩
  refine List.forall_mem_cons.mpr ⟨ok_iald F dX7_middleNight_48 (by decide), ?_⟩
  refine List.forall_mem_cons.mpr ⟨ok_icmp_ge F dX7_middleNight_49 (by decide) (by decide) (by decide), ?_⟩
  refine List.forall_mem_cons.mpr ⟨ok_iconst F dX7_middleNight_52 (by decide) (by decide), ?_⟩
  refine List.forall_mem_cons.mpr ⟨ok_goto F dX7_middleNight_53 (by decide) (by decide) (by decide), ?_⟩
  refine List.forall_mem_cons.mpr ⟨ok_iconst F dX7_middleNight_56 (by decide) (by decide), ?_⟩
  refine List.forall_mem_cons.mpr ⟨ok_iadd F dX7_middleNight_57 (by decide), ?_⟩
  refine List.forall_mem_cons.mpr ⟨ok_istore_n F dX7_middleNight_58 rfl (by decide) (by decide), ?_⟩
  refine List.forall_mem_cons.mpr ⟨ok_iload F dX7_middleNight_59 (by decide), ?_⟩
  refine List.forall_mem_cons.mpr ⟨ok_aload_n F dX7_middleNight_61 rfl (by decide), ?_⟩
  refine List.forall_mem_cons.mpr ⟨ok_getf F flX7_7 dX7_middleNight_62 (by decide), ?_⟩
  refine List.forall_mem_cons.mpr ⟨ok_bipush F dX7_middleNight_65 (by decide) (by decide), ?_⟩
  refine List.forall_mem_cons.mpr ⟨ok_iload F dX7_middleNight_67 (by decide), ?_⟩
  refine List.forall_mem_cons.mpr ⟨ok_iadd F dX7_middleNight_69 (by decide), ?_⟩
  refine List.forall_mem_cons.mpr ⟨ok_iald F dX7_middleNight_70 (by decide), ?_⟩
  refine List.forall_mem_cons.mpr ⟨ok_aload_n F dX7_middleNight_71 rfl (by decide), ?_⟩
  refine List.forall_mem_cons.mpr ⟨ok_getf F flX7_7 dX7_middleNight_72 (by decide), ?_⟩
  refine List.forall_mem_cons.mpr ⟨ok_bipush F dX7_middleNight_75 (by decide) (by decide), ?_⟩
  refine List.forall_mem_cons.mpr ⟨ok_iload_n F dX7_middleNight_77 rfl (by decide), ?_⟩
  refine List.forall_mem_cons.mpr ⟨ok_iadd F dX7_middleNight_78 (by decide), ?_⟩
  refine List.forall_mem_cons.mpr ⟨ok_iald F dX7_middleNight_79 (by decide), ?_⟩
  refine List.forall_mem_cons.mpr ⟨ok_icmp_ne F dX7_middleNight_80 (by decide) (by decide) (by decide), ?_⟩
  refine List.forall_mem_cons.mpr ⟨ok_iconst F dX7_middleNight_83 (by decide) (by decide), ?_⟩
  refine List.forall_mem_cons.mpr ⟨ok_goto F dX7_middleNight_84 (by decide) (by decide) (by decide), ?_⟩
  refine List.forall_mem_cons.mpr ⟨ok_iconst F dX7_middleNight_87 (by decide) (by decide), ?_⟩
  refine List.forall_mem_cons.mpr ⟨ok_iadd F dX7_middleNight_88 (by decide), ?_⟩
  refine List.forall_mem_cons.mpr ⟨ok_istore F dX7_middleNight_89 (by decide) (by decide), ?_⟩
  refine List.forall_mem_cons.mpr ⟨ok_iinc F dX7_middleNight_91 (by decide) (by decide) (by decide), ?_⟩
  refine List.forall_mem_cons.mpr ⟨ok_goto F dX7_middleNight_94 (by decide) (by decide) (by decide), ?_⟩
  refine List.forall_mem_cons.mpr ⟨ok_iload_n F dX7_middleNight_97 rfl (by decide), ?_⟩
  refine List.forall_mem_cons.mpr ⟨ok_iload_n F dX7_middleNight_98 rfl (by decide), ?_⟩
  refine List.forall_mem_cons.mpr ⟨ok_iconst F dX7_middleNight_99 (by decide) (by decide), ?_⟩
  refine List.forall_mem_cons.mpr ⟨ok_isub F dX7_middleNight_100 (by decide), ?_⟩
  refine List.forall_mem_cons.mpr ⟨ok_iconst F dX7_middleNight_101 (by decide) (by decide), ?_⟩
  refine List.forall_mem_cons.mpr ⟨ok_idiv F dX7_middleNight_102 (by decide), ?_⟩
  refine List.forall_mem_cons.mpr ⟨ok_icmp_gt F dX7_middleNight_103 (by decide) (by decide) (by decide), ?_⟩
  refine List.forall_mem_cons.mpr ⟨ok_iload_n F dX7_middleNight_106 rfl (by decide), ?_⟩
  refine List.forall_mem_cons.mpr ⟨ok_iload F dX7_middleNight_107 (by decide), ?_⟩
  refine List.forall_mem_cons.mpr ⟨ok_iadd F dX7_middleNight_109 (by decide), ?_⟩
  refine List.forall_mem_cons.mpr ⟨ok_iload_n F dX7_middleNight_110 rfl (by decide), ?_⟩
  refine List.forall_mem_cons.mpr ⟨ok_iconst F dX7_middleNight_111 (by decide) (by decide), ?_⟩
  refine List.forall_mem_cons.mpr ⟨ok_isub F dX7_middleNight_112 (by decide), ?_⟩
  refine List.forall_mem_cons.mpr ⟨ok_iconst F dX7_middleNight_113 (by decide) (by decide), ?_⟩
  refine List.forall_mem_cons.mpr ⟨ok_idiv F dX7_middleNight_114 (by decide), ?_⟩
  refine List.forall_mem_cons.mpr ⟨ok_icmp_le F dX7_middleNight_115 (by decide) (by decide) (by decide), ?_⟩
  refine List.forall_mem_cons.mpr ⟨ok_aload_n F dX7_middleNight_118 rfl (by decide), ?_⟩
  refine List.forall_mem_cons.mpr ⟨ok_getf F flX7_7 dX7_middleNight_119 (by decide), ?_⟩
  refine List.forall_mem_cons.mpr ⟨ok_bipush F dX7_middleNight_122 (by decide) (by decide), ?_⟩
  refine List.forall_mem_cons.mpr ⟨ok_iload_n F dX7_middleNight_124 rfl (by decide), ?_⟩
  refine List.forall_mem_cons.mpr ⟨ok_iadd F dX7_middleNight_125 (by decide), ?_⟩
  refine List.forall_mem_cons.mpr ⟨ok_iald F dX7_middleNight_126 (by decide), ?_⟩
  refine List.forall_mem_cons.mpr ⟨ok_iret F G dX7_middleNight_127 (by decide), ?_⟩
  refine List.forall_mem_cons.mpr ⟨ok_iinc F dX7_middleNight_128 (by decide) (by decide) (by decide), ?_⟩
  refine List.forall_mem_cons.mpr ⟨ok_goto F dX7_middleNight_131 (by decide) (by decide) (by decide), ?_⟩
  refine List.forall_mem_cons.mpr ⟨ok_iconst F dX7_middleNight_134 (by decide) (by decide), ?_⟩
  refine List.forall_mem_cons.mpr ⟨ok_iret F G dX7_middleNight_135 (by decide), ?_⟩
  exact fun _ h => absurd h List.not_mem_nil
set_option maxRecDepth 100000 in
theorem w_X7_middleNight : (∀ (K : Kt QT) (n : Nat) (L : xL) (st : List Value) (S : QT), nx cod_X7_middleNight cut_X7_middleNight K (n + 1) 0 L st S = (O_aload 0 1) (nx cod_X7_middleNight cut_X7_middleNight K n) 0 L st S) ∧
  (∀ (K : Kt QT) (n : Nat) (L : xL) (st : List Value) (S : QT), nx cod_X7_middleNight cut_X7_middleNight K (n + 1) 1 L st S = (O_getf aW 7 0) (nx cod_X7_middleNight cut_X7_middleNight K n) 1 L st S) ∧
  (∀ (K : Kt QT) (n : Nat) (L : xL) (st : List Value) (S : QT), nx cod_X7_middleNight cut_X7_middleNight K (n + 1) 4 L st S = (O_int 18 2) (nx cod_X7_middleNight cut_X7_middleNight K n) 4 L st S) ∧
  (∀ (K : Kt QT) (n : Nat) (L : xL) (st : List Value) (S : QT), nx cod_X7_middleNight cut_X7_middleNight K (n + 1) 6 L st S = (O_ald aW 0) (nx cod_X7_middleNight cut_X7_middleNight K n) 6 L st S) ∧
  (∀ (K : Kt QT) (n : Nat) (L : xL) (st : List Value) (S : QT), nx cod_X7_middleNight cut_X7_middleNight K (n + 1) 7 L st S = (O_istore 1 1) (nx cod_X7_middleNight cut_X7_middleNight K n) 7 L st S) ∧
  (∀ (K : Kt QT) (n : Nat) (L : xL) (st : List Value) (S : QT), nx cod_X7_middleNight cut_X7_middleNight K (n + 1) 8 L st S = (O_int 0 1) (nx cod_X7_middleNight cut_X7_middleNight K n) 8 L st S) ∧
  (∀ (K : Kt QT) (n : Nat) (L : xL) (st : List Value) (S : QT), nx cod_X7_middleNight cut_X7_middleNight K (n + 1) 9 L st S = (O_istore 2 1) (nx cod_X7_middleNight cut_X7_middleNight K n) 9 L st S) ∧
  (∀ (K : Kt QT) (n : Nat) (L : xL) (st : List Value) (S : QT), nx cod_X7_middleNight cut_X7_middleNight K (n + 1) 10 L st S = K 10 L st S) ∧
  (∀ (K : Kt QT) (n : Nat) (L : xL) (st : List Value) (S : QT), nx1 cod_X7_middleNight cut_X7_middleNight K n 10 L st S = (O_iload 2 1) (nx cod_X7_middleNight cut_X7_middleNight K n) 10 L st S) ∧
  (∀ (K : Kt QT) (n : Nat) (L : xL) (st : List Value) (S : QT), nx cod_X7_middleNight cut_X7_middleNight K (n + 1) 11 L st S = (O_iload 1 1) (nx cod_X7_middleNight cut_X7_middleNight K n) 11 L st S) ∧
  (∀ (K : Kt QT) (n : Nat) (L : xL) (st : List Value) (S : QT), nx cod_X7_middleNight cut_X7_middleNight K (n + 1) 12 L st S = (O_icmp_ge 134) (nx cod_X7_middleNight cut_X7_middleNight K n) 12 L st S) ∧
  (∀ (K : Kt QT) (n : Nat) (L : xL) (st : List Value) (S : QT), nx cod_X7_middleNight cut_X7_middleNight K (n + 1) 15 L st S = (O_int 0 1) (nx cod_X7_middleNight cut_X7_middleNight K n) 15 L st S) ∧
  (∀ (K : Kt QT) (n : Nat) (L : xL) (st : List Value) (S : QT), nx cod_X7_middleNight cut_X7_middleNight K (n + 1) 16 L st S = (O_istore 3 1) (nx cod_X7_middleNight cut_X7_middleNight K n) 16 L st S) ∧
  (∀ (K : Kt QT) (n : Nat) (L : xL) (st : List Value) (S : QT), nx cod_X7_middleNight cut_X7_middleNight K (n + 1) 17 L st S = (O_int 0 1) (nx cod_X7_middleNight cut_X7_middleNight K n) 17 L st S) ∧
  (∀ (K : Kt QT) (n : Nat) (L : xL) (st : List Value) (S : QT), nx cod_X7_middleNight cut_X7_middleNight K (n + 1) 18 L st S = (O_istore 4 2) (nx cod_X7_middleNight cut_X7_middleNight K n) 18 L st S) ∧
  (∀ (K : Kt QT) (n : Nat) (L : xL) (st : List Value) (S : QT), nx cod_X7_middleNight cut_X7_middleNight K (n + 1) 20 L st S = (O_int 0 1) (nx cod_X7_middleNight cut_X7_middleNight K n) 20 L st S) ∧
  (∀ (K : Kt QT) (n : Nat) (L : xL) (st : List Value) (S : QT), nx cod_X7_middleNight cut_X7_middleNight K (n + 1) 21 L st S = (O_istore 5 2) (nx cod_X7_middleNight cut_X7_middleNight K n) 21 L st S) ∧
  (∀ (K : Kt QT) (n : Nat) (L : xL) (st : List Value) (S : QT), nx cod_X7_middleNight cut_X7_middleNight K (n + 1) 23 L st S = K 23 L st S) ∧
  (∀ (K : Kt QT) (n : Nat) (L : xL) (st : List Value) (S : QT), nx1 cod_X7_middleNight cut_X7_middleNight K n 23 L st S = (O_iload 5 2) (nx cod_X7_middleNight cut_X7_middleNight K n) 23 L st S) ∧
  (∀ (K : Kt QT) (n : Nat) (L : xL) (st : List Value) (S : QT), nx cod_X7_middleNight cut_X7_middleNight K (n + 1) 25 L st S = (O_iload 1 1) (nx cod_X7_middleNight cut_X7_middleNight K n) 25 L st S) ∧
  (∀ (K : Kt QT) (n : Nat) (L : xL) (st : List Value) (S : QT), nx cod_X7_middleNight cut_X7_middleNight K (n + 1) 26 L st S = (O_icmp_ge 97) (nx cod_X7_middleNight cut_X7_middleNight K n) 26 L st S) ∧
  (∀ (K : Kt QT) (n : Nat) (L : xL) (st : List Value) (S : QT), nx cod_X7_middleNight cut_X7_middleNight K (n + 1) 29 L st S = (O_iload 3 1) (nx cod_X7_middleNight cut_X7_middleNight K n) 29 L st S) ∧
  (∀ (K : Kt QT) (n : Nat) (L : xL) (st : List Value) (S : QT), nx cod_X7_middleNight cut_X7_middleNight K (n + 1) 30 L st S = (O_aload 0 1) (nx cod_X7_middleNight cut_X7_middleNight K n) 30 L st S) ∧
  (∀ (K : Kt QT) (n : Nat) (L : xL) (st : List Value) (S : QT), nx cod_X7_middleNight cut_X7_middleNight K (n + 1) 31 L st S = (O_getf aW 7 0) (nx cod_X7_middleNight cut_X7_middleNight K n) 31 L st S) ∧
  (∀ (K : Kt QT) (n : Nat) (L : xL) (st : List Value) (S : QT), nx cod_X7_middleNight cut_X7_middleNight K (n + 1) 34 L st S = (O_int 127 2) (nx cod_X7_middleNight cut_X7_middleNight K n) 34 L st S) ∧
  (∀ (K : Kt QT) (n : Nat) (L : xL) (st : List Value) (S : QT), nx cod_X7_middleNight cut_X7_middleNight K (n + 1) 36 L st S = (O_iload 5 2) (nx cod_X7_middleNight cut_X7_middleNight K n) 36 L st S) ∧
  (∀ (K : Kt QT) (n : Nat) (L : xL) (st : List Value) (S : QT), nx cod_X7_middleNight cut_X7_middleNight K (n + 1) 38 L st S = (O_iadd) (nx cod_X7_middleNight cut_X7_middleNight K n) 38 L st S) ∧
  (∀ (K : Kt QT) (n : Nat) (L : xL) (st : List Value) (S : QT), nx cod_X7_middleNight cut_X7_middleNight K (n + 1) 39 L st S = (O_ald aW 0) (nx cod_X7_middleNight cut_X7_middleNight K n) 39 L st S) ∧
  (∀ (K : Kt QT) (n : Nat) (L : xL) (st : List Value) (S : QT), nx cod_X7_middleNight cut_X7_middleNight K (n + 1) 40 L st S = (O_aload 0 1) (nx cod_X7_middleNight cut_X7_middleNight K n) 40 L st S) ∧
  (∀ (K : Kt QT) (n : Nat) (L : xL) (st : List Value) (S : QT), nx cod_X7_middleNight cut_X7_middleNight K (n + 1) 41 L st S = (O_getf aW 7 0) (nx cod_X7_middleNight cut_X7_middleNight K n) 41 L st S) ∧
  (∀ (K : Kt QT) (n : Nat) (L : xL) (st : List Value) (S : QT), nx cod_X7_middleNight cut_X7_middleNight K (n + 1) 44 L st S = (O_int 127 2) (nx cod_X7_middleNight cut_X7_middleNight K n) 44 L st S) ∧
  (∀ (K : Kt QT) (n : Nat) (L : xL) (st : List Value) (S : QT), nx cod_X7_middleNight cut_X7_middleNight K (n + 1) 46 L st S = (O_iload 2 1) (nx cod_X7_middleNight cut_X7_middleNight K n) 46 L st S) ∧
  (∀ (K : Kt QT) (n : Nat) (L : xL) (st : List Value) (S : QT), nx cod_X7_middleNight cut_X7_middleNight K (n + 1) 47 L st S = (O_iadd) (nx cod_X7_middleNight cut_X7_middleNight K n) 47 L st S) ∧
  (∀ (K : Kt QT) (n : Nat) (L : xL) (st : List Value) (S : QT), nx cod_X7_middleNight cut_X7_middleNight K (n + 1) 48 L st S = (O_ald aW 0) (nx cod_X7_middleNight cut_X7_middleNight K n) 48 L st S) ∧
  (∀ (K : Kt QT) (n : Nat) (L : xL) (st : List Value) (S : QT), nx cod_X7_middleNight cut_X7_middleNight K (n + 1) 49 L st S = (O_icmp_ge 56) (nx cod_X7_middleNight cut_X7_middleNight K n) 49 L st S) ∧
  (∀ (K : Kt QT) (n : Nat) (L : xL) (st : List Value) (S : QT), nx cod_X7_middleNight cut_X7_middleNight K (n + 1) 52 L st S = (O_int 1 1) (nx cod_X7_middleNight cut_X7_middleNight K n) 52 L st S) ∧
  (∀ (K : Kt QT) (n : Nat) (L : xL) (st : List Value) (S : QT), nx cod_X7_middleNight cut_X7_middleNight K (n + 1) 53 L st S = (O_goto 57) (nx cod_X7_middleNight cut_X7_middleNight K n) 53 L st S) ∧
  (∀ (K : Kt QT) (n : Nat) (L : xL) (st : List Value) (S : QT), nx cod_X7_middleNight cut_X7_middleNight K (n + 1) 56 L st S = (O_int 0 1) (nx cod_X7_middleNight cut_X7_middleNight K n) 56 L st S) ∧
  (∀ (K : Kt QT) (n : Nat) (L : xL) (st : List Value) (S : QT), nx cod_X7_middleNight cut_X7_middleNight K (n + 1) 57 L st S = (O_iadd) (nx cod_X7_middleNight cut_X7_middleNight K n) 57 L st S) ∧
  (∀ (K : Kt QT) (n : Nat) (L : xL) (st : List Value) (S : QT), nx cod_X7_middleNight cut_X7_middleNight K (n + 1) 58 L st S = (O_istore 3 1) (nx cod_X7_middleNight cut_X7_middleNight K n) 58 L st S) ∧
  (∀ (K : Kt QT) (n : Nat) (L : xL) (st : List Value) (S : QT), nx cod_X7_middleNight cut_X7_middleNight K (n + 1) 59 L st S = (O_iload 4 2) (nx cod_X7_middleNight cut_X7_middleNight K n) 59 L st S) ∧
  (∀ (K : Kt QT) (n : Nat) (L : xL) (st : List Value) (S : QT), nx cod_X7_middleNight cut_X7_middleNight K (n + 1) 61 L st S = (O_aload 0 1) (nx cod_X7_middleNight cut_X7_middleNight K n) 61 L st S) ∧
  (∀ (K : Kt QT) (n : Nat) (L : xL) (st : List Value) (S : QT), nx cod_X7_middleNight cut_X7_middleNight K (n + 1) 62 L st S = (O_getf aW 7 0) (nx cod_X7_middleNight cut_X7_middleNight K n) 62 L st S) ∧
  (∀ (K : Kt QT) (n : Nat) (L : xL) (st : List Value) (S : QT), nx cod_X7_middleNight cut_X7_middleNight K (n + 1) 65 L st S = (O_int 127 2) (nx cod_X7_middleNight cut_X7_middleNight K n) 65 L st S) ∧
  (∀ (K : Kt QT) (n : Nat) (L : xL) (st : List Value) (S : QT), nx cod_X7_middleNight cut_X7_middleNight K (n + 1) 67 L st S = (O_iload 5 2) (nx cod_X7_middleNight cut_X7_middleNight K n) 67 L st S) ∧
  (∀ (K : Kt QT) (n : Nat) (L : xL) (st : List Value) (S : QT), nx cod_X7_middleNight cut_X7_middleNight K (n + 1) 69 L st S = (O_iadd) (nx cod_X7_middleNight cut_X7_middleNight K n) 69 L st S) ∧
  (∀ (K : Kt QT) (n : Nat) (L : xL) (st : List Value) (S : QT), nx cod_X7_middleNight cut_X7_middleNight K (n + 1) 70 L st S = (O_ald aW 0) (nx cod_X7_middleNight cut_X7_middleNight K n) 70 L st S) ∧
  (∀ (K : Kt QT) (n : Nat) (L : xL) (st : List Value) (S : QT), nx cod_X7_middleNight cut_X7_middleNight K (n + 1) 71 L st S = (O_aload 0 1) (nx cod_X7_middleNight cut_X7_middleNight K n) 71 L st S) ∧
  (∀ (K : Kt QT) (n : Nat) (L : xL) (st : List Value) (S : QT), nx cod_X7_middleNight cut_X7_middleNight K (n + 1) 72 L st S = (O_getf aW 7 0) (nx cod_X7_middleNight cut_X7_middleNight K n) 72 L st S) ∧
  (∀ (K : Kt QT) (n : Nat) (L : xL) (st : List Value) (S : QT), nx cod_X7_middleNight cut_X7_middleNight K (n + 1) 75 L st S = (O_int 127 2) (nx cod_X7_middleNight cut_X7_middleNight K n) 75 L st S) ∧
  (∀ (K : Kt QT) (n : Nat) (L : xL) (st : List Value) (S : QT), nx cod_X7_middleNight cut_X7_middleNight K (n + 1) 77 L st S = (O_iload 2 1) (nx cod_X7_middleNight cut_X7_middleNight K n) 77 L st S) ∧
  (∀ (K : Kt QT) (n : Nat) (L : xL) (st : List Value) (S : QT), nx cod_X7_middleNight cut_X7_middleNight K (n + 1) 78 L st S = (O_iadd) (nx cod_X7_middleNight cut_X7_middleNight K n) 78 L st S) ∧
  (∀ (K : Kt QT) (n : Nat) (L : xL) (st : List Value) (S : QT), nx cod_X7_middleNight cut_X7_middleNight K (n + 1) 79 L st S = (O_ald aW 0) (nx cod_X7_middleNight cut_X7_middleNight K n) 79 L st S) ∧
  (∀ (K : Kt QT) (n : Nat) (L : xL) (st : List Value) (S : QT), nx cod_X7_middleNight cut_X7_middleNight K (n + 1) 80 L st S = (O_icmp_ne 87) (nx cod_X7_middleNight cut_X7_middleNight K n) 80 L st S) ∧
  (∀ (K : Kt QT) (n : Nat) (L : xL) (st : List Value) (S : QT), nx cod_X7_middleNight cut_X7_middleNight K (n + 1) 83 L st S = (O_int 1 1) (nx cod_X7_middleNight cut_X7_middleNight K n) 83 L st S) ∧
  (∀ (K : Kt QT) (n : Nat) (L : xL) (st : List Value) (S : QT), nx cod_X7_middleNight cut_X7_middleNight K (n + 1) 84 L st S = (O_goto 88) (nx cod_X7_middleNight cut_X7_middleNight K n) 84 L st S) ∧
  (∀ (K : Kt QT) (n : Nat) (L : xL) (st : List Value) (S : QT), nx cod_X7_middleNight cut_X7_middleNight K (n + 1) 87 L st S = (O_int 0 1) (nx cod_X7_middleNight cut_X7_middleNight K n) 87 L st S) ∧
  (∀ (K : Kt QT) (n : Nat) (L : xL) (st : List Value) (S : QT), nx cod_X7_middleNight cut_X7_middleNight K (n + 1) 88 L st S = (O_iadd) (nx cod_X7_middleNight cut_X7_middleNight K n) 88 L st S) ∧
  (∀ (K : Kt QT) (n : Nat) (L : xL) (st : List Value) (S : QT), nx cod_X7_middleNight cut_X7_middleNight K (n + 1) 89 L st S = (O_istore 4 2) (nx cod_X7_middleNight cut_X7_middleNight K n) 89 L st S) ∧
  (∀ (K : Kt QT) (n : Nat) (L : xL) (st : List Value) (S : QT), nx cod_X7_middleNight cut_X7_middleNight K (n + 1) 91 L st S = (O_iinc 5 1) (nx cod_X7_middleNight cut_X7_middleNight K n) 91 L st S) ∧
  (∀ (K : Kt QT) (n : Nat) (L : xL) (st : List Value) (S : QT), nx cod_X7_middleNight cut_X7_middleNight K (n + 1) 94 L st S = (O_goto 23) (nx cod_X7_middleNight cut_X7_middleNight K n) 94 L st S) ∧
  (∀ (K : Kt QT) (n : Nat) (L : xL) (st : List Value) (S : QT), nx cod_X7_middleNight cut_X7_middleNight K (n + 1) 97 L st S = (O_iload 3 1) (nx cod_X7_middleNight cut_X7_middleNight K n) 97 L st S) ∧
  (∀ (K : Kt QT) (n : Nat) (L : xL) (st : List Value) (S : QT), nx cod_X7_middleNight cut_X7_middleNight K (n + 1) 98 L st S = (O_iload 1 1) (nx cod_X7_middleNight cut_X7_middleNight K n) 98 L st S) ∧
  (∀ (K : Kt QT) (n : Nat) (L : xL) (st : List Value) (S : QT), nx cod_X7_middleNight cut_X7_middleNight K (n + 1) 99 L st S = (O_int 1 1) (nx cod_X7_middleNight cut_X7_middleNight K n) 99 L st S) ∧
  (∀ (K : Kt QT) (n : Nat) (L : xL) (st : List Value) (S : QT), nx cod_X7_middleNight cut_X7_middleNight K (n + 1) 100 L st S = (O_isub) (nx cod_X7_middleNight cut_X7_middleNight K n) 100 L st S) ∧
  (∀ (K : Kt QT) (n : Nat) (L : xL) (st : List Value) (S : QT), nx cod_X7_middleNight cut_X7_middleNight K (n + 1) 101 L st S = (O_int 2 1) (nx cod_X7_middleNight cut_X7_middleNight K n) 101 L st S) ∧
  (∀ (K : Kt QT) (n : Nat) (L : xL) (st : List Value) (S : QT), nx cod_X7_middleNight cut_X7_middleNight K (n + 1) 102 L st S = (O_idiv) (nx cod_X7_middleNight cut_X7_middleNight K n) 102 L st S) ∧
  (∀ (K : Kt QT) (n : Nat) (L : xL) (st : List Value) (S : QT), nx cod_X7_middleNight cut_X7_middleNight K (n + 1) 103 L st S = (O_icmp_gt 128) (nx cod_X7_middleNight cut_X7_middleNight K n) 103 L st S) ∧
  (∀ (K : Kt QT) (n : Nat) (L : xL) (st : List Value) (S : QT), nx cod_X7_middleNight cut_X7_middleNight K (n + 1) 106 L st S = (O_iload 3 1) (nx cod_X7_middleNight cut_X7_middleNight K n) 106 L st S) ∧
  (∀ (K : Kt QT) (n : Nat) (L : xL) (st : List Value) (S : QT), nx cod_X7_middleNight cut_X7_middleNight K (n + 1) 107 L st S = (O_iload 4 2) (nx cod_X7_middleNight cut_X7_middleNight K n) 107 L st S) ∧
  (∀ (K : Kt QT) (n : Nat) (L : xL) (st : List Value) (S : QT), nx cod_X7_middleNight cut_X7_middleNight K (n + 1) 109 L st S = (O_iadd) (nx cod_X7_middleNight cut_X7_middleNight K n) 109 L st S) ∧
  (∀ (K : Kt QT) (n : Nat) (L : xL) (st : List Value) (S : QT), nx cod_X7_middleNight cut_X7_middleNight K (n + 1) 110 L st S = (O_iload 1 1) (nx cod_X7_middleNight cut_X7_middleNight K n) 110 L st S) ∧
  (∀ (K : Kt QT) (n : Nat) (L : xL) (st : List Value) (S : QT), nx cod_X7_middleNight cut_X7_middleNight K (n + 1) 111 L st S = (O_int 1 1) (nx cod_X7_middleNight cut_X7_middleNight K n) 111 L st S) ∧
  (∀ (K : Kt QT) (n : Nat) (L : xL) (st : List Value) (S : QT), nx cod_X7_middleNight cut_X7_middleNight K (n + 1) 112 L st S = (O_isub) (nx cod_X7_middleNight cut_X7_middleNight K n) 112 L st S) ∧
  (∀ (K : Kt QT) (n : Nat) (L : xL) (st : List Value) (S : QT), nx cod_X7_middleNight cut_X7_middleNight K (n + 1) 113 L st S = (O_int 2 1) (nx cod_X7_middleNight cut_X7_middleNight K n) 113 L st S) ∧
  (∀ (K : Kt QT) (n : Nat) (L : xL) (st : List Value) (S : QT), nx cod_X7_middleNight cut_X7_middleNight K (n + 1) 114 L st S = (O_idiv) (nx cod_X7_middleNight cut_X7_middleNight K n) 114 L st S) ∧
  (∀ (K : Kt QT) (n : Nat) (L : xL) (st : List Value) (S : QT), nx cod_X7_middleNight cut_X7_middleNight K (n + 1) 115 L st S = (O_icmp_le 128) (nx cod_X7_middleNight cut_X7_middleNight K n) 115 L st S) ∧
  (∀ (K : Kt QT) (n : Nat) (L : xL) (st : List Value) (S : QT), nx cod_X7_middleNight cut_X7_middleNight K (n + 1) 118 L st S = (O_aload 0 1) (nx cod_X7_middleNight cut_X7_middleNight K n) 118 L st S) ∧
  (∀ (K : Kt QT) (n : Nat) (L : xL) (st : List Value) (S : QT), nx cod_X7_middleNight cut_X7_middleNight K (n + 1) 119 L st S = (O_getf aW 7 0) (nx cod_X7_middleNight cut_X7_middleNight K n) 119 L st S) ∧
  (∀ (K : Kt QT) (n : Nat) (L : xL) (st : List Value) (S : QT), nx cod_X7_middleNight cut_X7_middleNight K (n + 1) 122 L st S = (O_int 127 2) (nx cod_X7_middleNight cut_X7_middleNight K n) 122 L st S) ∧
  (∀ (K : Kt QT) (n : Nat) (L : xL) (st : List Value) (S : QT), nx cod_X7_middleNight cut_X7_middleNight K (n + 1) 124 L st S = (O_iload 2 1) (nx cod_X7_middleNight cut_X7_middleNight K n) 124 L st S) ∧
  (∀ (K : Kt QT) (n : Nat) (L : xL) (st : List Value) (S : QT), nx cod_X7_middleNight cut_X7_middleNight K (n + 1) 125 L st S = (O_iadd) (nx cod_X7_middleNight cut_X7_middleNight K n) 125 L st S) ∧
  (∀ (K : Kt QT) (n : Nat) (L : xL) (st : List Value) (S : QT), nx cod_X7_middleNight cut_X7_middleNight K (n + 1) 126 L st S = (O_ald aW 0) (nx cod_X7_middleNight cut_X7_middleNight K n) 126 L st S) ∧
  (∀ (K : Kt QT) (n : Nat) (L : xL) (st : List Value) (S : QT), nx cod_X7_middleNight cut_X7_middleNight K (n + 1) 127 L st S = (O_iret) (nx cod_X7_middleNight cut_X7_middleNight K n) 127 L st S) ∧
  (∀ (K : Kt QT) (n : Nat) (L : xL) (st : List Value) (S : QT), nx cod_X7_middleNight cut_X7_middleNight K (n + 1) 128 L st S = (O_iinc 2 1) (nx cod_X7_middleNight cut_X7_middleNight K n) 128 L st S) ∧
  (∀ (K : Kt QT) (n : Nat) (L : xL) (st : List Value) (S : QT), nx cod_X7_middleNight cut_X7_middleNight K (n + 1) 131 L st S = (O_goto 10) (nx cod_X7_middleNight cut_X7_middleNight K n) 131 L st S) ∧
  (∀ (K : Kt QT) (n : Nat) (L : xL) (st : List Value) (S : QT), nx cod_X7_middleNight cut_X7_middleNight K (n + 1) 134 L st S = (O_int 0 1) (nx cod_X7_middleNight cut_X7_middleNight K n) 134 L st S) ∧
  (∀ (K : Kt QT) (n : Nat) (L : xL) (st : List Value) (S : QT), nx cod_X7_middleNight cut_X7_middleNight K (n + 1) 135 L st S = (O_iret) (nx cod_X7_middleNight cut_X7_middleNight K n) 135 L st S) ∧
  (∀ (K : Kt QT) (n : Nat) (L : xL) (st : List Value) (S : QT), nx cod_X7_middleNight cut_X7_middleNight K (n + 1) 100000 L st S = K 100000 L st S) := by
  repeat' apply And.intro
  all_goals (intros; rfl)
set_option maxRecDepth 100000 in
theorem mk_X7_middleNight {P P' : QT} {r : Option Value}  (body : ∀ E : En, CodOk E aW cod_X7_middleNight → Gd E aW 100000 [] r.toList P' → Gd E aW 0 [some (.ref 0), none, none, none, none, none] [] P) : Con yX7_middleNight cX7_middleNight 6 (some .int) 0 aW [.ref 0] P r P' :=
  Con.of (by decide) ((aW_len P').trans (aW_len P).symm) rfl (Nat.le_of_ble_eq_true rfl) (fun E F G hr => body E (okc_X7_middleNight F G) hr)
set_option maxRecDepth 10000 in
theorem con_X7_middleNight (S : ST) (M : MT) (fl : Bool)  (hp : S.N.ok) : Con yX7_middleNight cX7_middleNight 6 (some .int) 0 aW [.ref 0] (S, M, fl) (some (.int (S.N.mid))) ((S, M, fl)) := by
  refine mk_X7_middleNight (fun E C hr => ?_)
  rw [NT.mid_eq hp] at hr
  have step : (∀ q3 q4 q5 : Option Value, Gd E aW 10 [some (.ref 0), some (.int S.N.size), some (.int (nI 0)), q3, q4, q5] [] (S, M, fl)) → Gd E aW 0 [some (.ref 0), none, none, none, none, none] [] (S, M, fl) := by
    intro hh
    have hh := hh none none none
    clear hr
    (refine nx_ok C (cuts := cut_X7_middleNight) 1000 _ _ _ _ ?_; simp only [w_X7_middleNight, ops_eq, xst_eq, call_eq, oK_eq, Option.toList_some, Option.toList_none, List.cons_append, List.nil_append, List.length_cons, List.length_nil, true_and, and_true, Nat.reduceAdd, aW_F, aW_A, aW_P, aW_w, abs_eq, O_asti_eq, v170, cl_eq, ST_id, MT_gs, ST_gs, PT_gs, ZT_gs, NT_gs, ET_gs])
    ((repeat' (with_reducible first | apply And.intro | intro _)) <;> simp_all [nI_0, ST_id, MT_gs, ST_gs, PT_gs, ZT_gs, NT_gs, ET_gs])
  refine step ?_
  refine fstN_up (c := fun i => decide (¬ (S.N.size - 1) / 2 < S.N.less i ∧ (S.N.size - 1) / 2 < S.N.less i + S.N.alike i)) (n := S.N.n) (fun i => ∀ q3 q4 q5 : Option Value, Gd E aW 10 [some (.ref 0), some (.int S.N.size), some (.int (nI i)), q3, q4, q5] [] (S, M, fl)) (fun p => p < 7 → Gd E aW 100000 [] [.int (S.N.noted p)] (S, M, fl)) (fun i hi h1 h2 q3 q4 q5 => ?_) (fun p h _ => ?_) (fun h q3 q4 q5 => ?_)
  · have hx := ixs hp hi
    have hi7 : i < 7 := by have := hp.2; omega
    have h1 := fun q => h1 q hi7
    have ha := at_night hi7
    have hb := abs_night S hi7
    clear hr
    have inner : ∀ q5 : Option Value, Gd E aW 23 [some (.ref 0), some (.int S.N.size), some (.int (nI i)), some (.int 0), some (.int 0), some (.int (nI 0))] [] (S, M, fl) := by
      intro _
      refine it_up (f := fun o (q : Int32 × Int32) => (q.1 + bI (decide (S.N.noted o < S.N.noted i)), q.2 + bI (decide (S.N.noted o = S.N.noted i)))) (a := ((0 : Int32), (0 : Int32))) (n := S.N.n) (fun _ _ => True) (fun j (q : Int32 × Int32) => Gd E aW 23 [some (.ref 0), some (.int S.N.size), some (.int (nI i)), some (.int q.1), some (.int q.2), some (.int (nI j))] [] (S, M, fl)) trivial (fun _ _ _ _ => trivial) (fun j q hj _ hn => ?_) ?_
      · obtain ⟨r1, r2⟩ := q
        have hy := ixs hp hj
        have hj7 : j < 7 := by have := hp.2; omega
        have hc := at_night hj7
        have hd := abs_night S hj7
        clear h1 h2
        have irr : S.N.noted j < S.N.noted i → ¬ S.N.noted j = S.N.noted i := fun z e => Int32.lt_irrefl (e ▸ z)
        by_cases c1 : S.N.noted j < S.N.noted i
        · have c2 := irr c1
          rw [decide_eq_true c1, decide_eq_false c2] at hn
          simp only [bI_eq, Int32.add_zero] at hn
          (refine nx1_ok C cut_X7_middleNight 1000 ?_; simp only [w_X7_middleNight, ops_eq, xst_eq, call_eq, oK_eq, Option.toList_some, Option.toList_none, List.cons_append, List.nil_append, List.length_cons, List.length_nil, true_and, and_true, Nat.reduceAdd, aW_F, aW_A, aW_P, aW_w, abs_eq, O_asti_eq, v170, cl_eq, ST_id, MT_gs, ST_gs, PT_gs, ZT_gs, NT_gs, ET_gs, hx, hy, ha, hb, hc, hd, c1, c2])
          clear ha hb hc hd hx hy irr c1 c2 step
          ((repeat' (with_reducible first | apply And.intro | intro _)) <;> first | (with_reducible assumption) | (with_reducible exact Nat.zero_le _) | exact absurd trivial ‹¬True› | (simp_all [ST_id, MT_gs, ST_gs, PT_gs, ZT_gs, NT_gs, ET_gs]; done) | assumption | simp_all)
        · by_cases c2 : S.N.noted j = S.N.noted i
          · rw [decide_eq_false c1, decide_eq_true c2] at hn
            simp only [bI_eq, Int32.add_zero] at hn
            (refine nx1_ok C cut_X7_middleNight 1000 ?_; simp only [w_X7_middleNight, ops_eq, xst_eq, call_eq, oK_eq, Option.toList_some, Option.toList_none, List.cons_append, List.nil_append, List.length_cons, List.length_nil, true_and, and_true, Nat.reduceAdd, aW_F, aW_A, aW_P, aW_w, abs_eq, O_asti_eq, v170, cl_eq, ST_id, MT_gs, ST_gs, PT_gs, ZT_gs, NT_gs, ET_gs, hx, hy, ha, hb, hc, hd, c1, c2])
            clear ha hb hc hd hx hy irr c1 c2 step
            ((repeat' (with_reducible first | apply And.intro | intro _)) <;> first | (with_reducible assumption) | (with_reducible exact Nat.zero_le _) | exact absurd trivial ‹¬True› | (simp_all [ST_id, MT_gs, ST_gs, PT_gs, ZT_gs, NT_gs, ET_gs]; done) | assumption | simp_all)
          · rw [decide_eq_false c1, decide_eq_false c2] at hn
            simp only [bI_eq, Int32.add_zero] at hn
            (refine nx1_ok C cut_X7_middleNight 1000 ?_; simp only [w_X7_middleNight, ops_eq, xst_eq, call_eq, oK_eq, Option.toList_some, Option.toList_none, List.cons_append, List.nil_append, List.length_cons, List.length_nil, true_and, and_true, Nat.reduceAdd, aW_F, aW_A, aW_P, aW_w, abs_eq, O_asti_eq, v170, cl_eq, ST_id, MT_gs, ST_gs, PT_gs, ZT_gs, NT_gs, ET_gs, hx, hy, ha, hb, hc, hd, c1, c2])
            clear ha hb hc hd hx hy irr c1 c2 step
            ((repeat' (with_reducible first | apply And.intro | intro _)) <;> first | (with_reducible assumption) | (with_reducible exact Nat.zero_le _) | exact absurd trivial ‹¬True› | (simp_all [ST_id, MT_gs, ST_gs, PT_gs, ZT_gs, NT_gs, ET_gs]; done) | assumption | simp_all)
      · rw [it_pair (fun o r => r + bI (decide (S.N.noted o < S.N.noted i))) (fun o r => r + bI (decide (S.N.noted o = S.N.noted i)))]
        have hy := ixe hp
        have e1 : it (fun o r => r + bI (decide (S.N.noted o < S.N.noted i))) 0 S.N.n = S.N.less i := rfl
        have e2 : it (fun o r => r + bI (decide (S.N.noted o = S.N.noted i))) 0 S.N.n = S.N.alike i := rfl
        rw [e1, e2]
        have h2 := fun z => h2 z (some (.int (S.N.less i))) (some (.int (S.N.alike i))) (some (.int S.N.size))
        by_cases c : ¬ (S.N.size - 1) / 2 < S.N.less i ∧ (S.N.size - 1) / 2 < S.N.less i + S.N.alike i
        · have h1 := h1 (decide_eq_true c)
          obtain ⟨c1, c2⟩ := c
          clear h2 e1 e2
          (refine nx1_ok C cut_X7_middleNight 1000 ?_; simp only [w_X7_middleNight, ops_eq, xst_eq, call_eq, oK_eq, Option.toList_some, Option.toList_none, List.cons_append, List.nil_append, List.length_cons, List.length_nil, true_and, and_true, Nat.reduceAdd, aW_F, aW_A, aW_P, aW_w, abs_eq, O_asti_eq, v170, cl_eq, ST_id, MT_gs, ST_gs, PT_gs, ZT_gs, NT_gs, ET_gs, hx, hy, ha, hb, c1, c2, show ¬ (2 : Int32) = 0 from by decide])
          clear hx hy ha hb c1 c2 step hp
          ((repeat' (with_reducible first | apply And.intro | intro _)) <;> first | (with_reducible assumption) | (with_reducible exact Nat.zero_le _) | exact absurd trivial ‹¬True› | (simp_all [ST_id, MT_gs, ST_gs, PT_gs, ZT_gs, NT_gs, ET_gs]; done) | assumption | simp_all)
        · have h2 := h2 (decide_eq_false c)
          clear h1 e1 e2
          by_cases c1 : (S.N.size - 1) / 2 < S.N.less i
          · (refine nx1_ok C cut_X7_middleNight 1000 ?_; simp only [w_X7_middleNight, ops_eq, xst_eq, call_eq, oK_eq, Option.toList_some, Option.toList_none, List.cons_append, List.nil_append, List.length_cons, List.length_nil, true_and, and_true, Nat.reduceAdd, aW_F, aW_A, aW_P, aW_w, abs_eq, O_asti_eq, v170, cl_eq, ST_id, MT_gs, ST_gs, PT_gs, ZT_gs, NT_gs, ET_gs, hx, hy, ha, hb, c1, show ¬ (2 : Int32) = 0 from by decide])
            clear hx hy ha hb c1 c step hp
            ((repeat' (with_reducible first | apply And.intro | intro _)) <;> first | (with_reducible assumption) | (with_reducible exact Nat.zero_le _) | exact absurd trivial ‹¬True› | (simp_all [ST_id, MT_gs, ST_gs, PT_gs, ZT_gs, NT_gs, ET_gs]; done) | assumption | simp_all)
          · have c2 : ¬ (S.N.size - 1) / 2 < S.N.less i + S.N.alike i := fun z => c ⟨c1, z⟩
            (refine nx1_ok C cut_X7_middleNight 1000 ?_; simp only [w_X7_middleNight, ops_eq, xst_eq, call_eq, oK_eq, Option.toList_some, Option.toList_none, List.cons_append, List.nil_append, List.length_cons, List.length_nil, true_and, and_true, Nat.reduceAdd, aW_F, aW_A, aW_P, aW_w, abs_eq, O_asti_eq, v170, cl_eq, ST_id, MT_gs, ST_gs, PT_gs, ZT_gs, NT_gs, ET_gs, hx, hy, ha, hb, c1, c2, show ¬ (2 : Int32) = 0 from by decide])
            clear hx hy ha hb c1 c2 c step hp
            ((repeat' (with_reducible first | apply And.intro | intro _)) <;> first | (with_reducible assumption) | (with_reducible exact Nat.zero_le _) | exact absurd trivial ‹¬True› | (simp_all [ST_id, MT_gs, ST_gs, PT_gs, ZT_gs, NT_gs, ET_gs]; done) | assumption | simp_all)
    have inner := inner none
    clear h1 h2
    (refine nx1_ok C cut_X7_middleNight 1000 ?_; simp only [w_X7_middleNight, ops_eq, xst_eq, call_eq, oK_eq, Option.toList_some, Option.toList_none, List.cons_append, List.nil_append, List.length_cons, List.length_nil, true_and, and_true, Nat.reduceAdd, aW_F, aW_A, aW_P, aW_w, abs_eq, O_asti_eq, v170, cl_eq, ST_id, MT_gs, ST_gs, PT_gs, ZT_gs, NT_gs, ET_gs, hx])
    ((repeat' (with_reducible first | apply And.intro | intro _)) <;> simp_all [nI_0, ST_id, MT_gs, ST_gs, PT_gs, ZT_gs, NT_gs, ET_gs])
  · unfold NT.mid7 at hr
    rw [h] at hr
    exact hr
  · have hx := ixe hp
    unfold NT.mid7 at hr
    rw [h] at hr
    (refine nx1_ok C cut_X7_middleNight 1000 ?_; simp only [w_X7_middleNight, ops_eq, xst_eq, call_eq, oK_eq, Option.toList_some, Option.toList_none, List.cons_append, List.nil_append, List.length_cons, List.length_nil, true_and, and_true, Nat.reduceAdd, aW_F, aW_A, aW_P, aW_w, abs_eq, O_asti_eq, v170, cl_eq, ST_id, MT_gs, ST_gs, PT_gs, ZT_gs, NT_gs, ET_gs, hx])
    ((repeat' (with_reducible first | apply And.intro | intro _)) <;> first | (with_reducible assumption) | (with_reducible exact Nat.zero_le _) | exact absurd trivial ‹¬True› | (simp_all [ST_id, MT_gs, ST_gs, PT_gs, ZT_gs, NT_gs, ET_gs]; done) | assumption | simp_all)
def spc_X7_middleNight (S : ST) (M : MT) (fl : Bool)  (K : Option Value → QT → Prop) : Prop := (S.N.ok) ∧ K (some (.int (S.N.mid))) ((S, M, fl))
def sp_X7_middleNight : Sp QT := fun av q K => match av with
  | [.ref 0] => spc_X7_middleNight q.1 q.2.1 q.2.2  K
  | _ => False
theorem se_X7_middleNight (S : ST) (M : MT) (fl : Bool)  (K : Option Value → QT → Prop) : sp_X7_middleNight [.ref 0] (S, M, fl) K = ((S.N.ok) ∧ K (some (.int (S.N.mid))) ((S, M, fl))) := rfl
theorem spok_X7_middleNight : SpOk yX7_middleNight cX7_middleNight 6 (some .int) 0 aW sp_X7_middleNight := by
  intro av q K h
  unfold sp_X7_middleNight at h
  split at h
  · refine ⟨_, _, ?_, con_X7_middleNight q.1 q.2.1 q.2.2  h.1, h.2⟩; trivial
  · exact h.elim
theorem n6' : ∀ k, k < 6 → (127 : Int32) + nI (6 - k) = nI (127 + (6 - k)) ∧ nI (127 + (6 - k)) - 1 = nI (127 + (5 - k)) := by decide +kernel
theorem sN_sN : ∀ (S : ST) (a b : NT), (S.sN a).sN b = S.sN b := fun _ _ _ => rfl
theorem shift_keep (T : NT) : (it NT.shift T 6).size = T.size ∧ (it NT.shift T 6).flow = T.flow ∧ (it NT.shift T 6).alarms = T.alarms := it_inv (fun _ (U : NT) => U.size = T.size ∧ U.flow = T.flow ∧ U.alarms = T.alarms) ⟨rfl, rfl, rfl⟩ (fun k U hk hU => hU)
theorem note_eq {T : NT} (h : T.ok) : T.note = (((it NT.shift T 6).sNoted (upd (it NT.shift T 6).noted 0 T.flow)).sFlow 0).sSize (T.size + (if T.size < 7 then 1 else 0)) := by
  obtain ⟨h1, h2, h3⟩ := h
  have e : (if T.size + 1 < 7 then T.size + 1 else 7) = T.size + (if T.size < 7 then 1 else 0) := by
    rw [h1, show (7 : Int32) = nI 7 from rfl, nI_1]
    have e1 := nI_ltI (a := T.n + 1) (b := 7) (by omega) (by omega)
    have e2 := nI_ltI (a := T.n) (b := 7) (by omega) (by omega)
    by_cases c : T.n < 7
    · rw [if_pos (e2.mpr c), nI_1]
      by_cases d : T.n + 1 < 7
      · rw [if_pos (e1.mpr d)]
      · rw [if_neg (fun z => d (e1.mp z)), show T.n + 1 = 7 by omega]
    · rw [if_neg (fun z => by have := e1.mp z; omega), if_neg (fun z => c (e2.mp z)), Int32.add_zero, show T.n = 7 by omega]
  unfold NT.note
  rw [e]
  rfl
def cod_X7_night : List (Nat × Op QT) := [(0, O_aload 0 1), (1, O_callV 0 0 (fun S => S) (fun _ S' => S') sp_X7_minuteOfDay), (4, O_aload 0 1), (5, O_int 15 2), (7, O_callV 1 0 (fun S => S) (fun _ S' => S') sp_X7_setting), (10, O_isub), (11, O_int 1440 3), (14, O_iadd), (15, O_int 1440 3), (18, O_irem), (19, O_istore 1 1), (20, O_iload 1 1), (21, O_aload 0 1), (22, O_int 16 2), (24, O_callV 1 0 (fun S => S) (fun _ S' => S') sp_X7_setting), (27, O_icmp_lt 31), (30, O_vret), (31, O_aload 0 1), (32, O_getf aW 7 0), (35, O_int 8 2), (37, O_dup2), (38, O_ald aW 0), (39, O_aload 0 1), (40, O_getf aW 7 0), (43, O_int 3 1), (44, O_ald aW 0), (45, O_iadd), (46, O_asti aW aW_wi), (47, O_iload 1 1), (48, O_aload 0 1), (49, O_int 16 2), (51, O_callV 1 0 (fun S => S) (fun _ S' => S') sp_X7_setting), (54, O_int 1 1), (55, O_isub), (56, O_icmp_ge 60), (59, O_vret), (60, O_aload 0 1), (61, O_getf aW 7 0), (64, O_int 18 2), (66, O_ald aW 0), (67, O_int 3 1), (68, O_icmp_lt 110), (71, O_aload 0 1), (72, O_getf aW 7 0), (75, O_int 8 2), (77, O_ald aW 0), (78, O_aload 0 1), (79, O_callV 0 0 (fun S => S) (fun _ S' => S') sp_X7_middleNight), (82, O_aload 0 1), (83, O_int 17 2), (85, O_callV 1 0 (fun S => S) (fun _ S' => S') sp_X7_setting), (88, O_iadd), (89, O_icmp_le 110), (92, O_aload 0 1), (93, O_getf aW 7 0), (96, O_int 9 2), (98, O_dup2), (99, O_ald aW 0), (100, O_int 1 1), (101, O_iadd), (102, O_asti aW aW_wi), (103, O_aload 0 1), (104, O_int 6 2), (106, O_int (-1) 1), (107, O_callV 2 0 (fun S => S) (fun _ S' => S') spa_X7_event), (110, O_int 6 2), (112, O_istore 2 1), (113, O_iload 2 1), (114, O_if_le 143), (117, O_aload 0 1), (118, O_getf aW 7 0), (121, O_int 127 2), (123, O_iload 2 1), (124, O_iadd), (125, O_aload 0 1), (126, O_getf aW 7 0), (129, O_int 127 2), (131, O_iload 2 1), (132, O_iadd), (133, O_int 1 1), (134, O_isub), (135, O_ald aW 0), (136, O_asti aW aW_wi), (137, O_iinc 2 (-1)), (140, O_goto 113), (143, O_aload 0 1), (144, O_getf aW 7 0), (147, O_int 127 2), (149, O_aload 0 1), (150, O_getf aW 7 0), (153, O_int 8 2), (155, O_ald aW 0), (156, O_asti aW aW_wi), (157, O_aload 0 1), (158, O_getf aW 7 0), (161, O_int 8 2), (163, O_int 0 1), (164, O_asti aW aW_wi), (165, O_aload 0 1), (166, O_getf aW 7 0), (169, O_int 18 2), (171, O_dup2), (172, O_ald aW 0), (173, O_aload 0 1), (174, O_getf aW 7 0), (177, O_int 18 2), (179, O_ald aW 0), (180, O_int 7 2), (182, O_icmp_ge 189), (185, O_int 1 1), (186, O_goto 190), (189, O_int 0 1), (190, O_iadd), (191, O_asti aW aW_wi), (192, O_vret)]
abbrev cut_X7_night : List Nat := [60, 110, 113]
set_option maxRecDepth 100000 in
theorem okc_X7_night {E : En} (F : Fx E RX7 cX7_night 3 1) (G : Fr E none) : CodOk E aW cod_X7_night := by
  unfold CodOk cod_X7_night
  refine List.forall_mem_cons.mpr ⟨ok_aload_n F dX7_night_0 rfl (by decide), ?_⟩
  refine List.forall_mem_cons.mpr ⟨ok_callV F spok_X7_minuteOfDay (ln_id aW) rcv_aW (by decide +kernel) (by decide) dX7_night_1 (by decide), ?_⟩
  refine List.forall_mem_cons.mpr ⟨ok_aload_n F dX7_night_4 rfl (by decide), ?_⟩
  refine List.forall_mem_cons.mpr ⟨ok_bipush F dX7_night_5 (by decide) (by decide), ?_⟩
  refine List.forall_mem_cons.mpr ⟨ok_callV F spok_X7_setting (ln_id aW) rcv_aW (by decide +kernel) (by decide) dX7_night_7 (by decide), ?_⟩
  refine List.forall_mem_cons.mpr ⟨ok_isub F dX7_night_10 (by decide), ?_⟩
  refine List.forall_mem_cons.mpr ⟨ok_sipush F dX7_night_11 (by decide) (by decide), ?_⟩
  refine List.forall_mem_cons.mpr ⟨ok_iadd F dX7_night_14 (by decide), ?_⟩
  refine List.forall_mem_cons.mpr ⟨ok_sipush F dX7_night_15 (by decide) (by decide), ?_⟩
  refine List.forall_mem_cons.mpr ⟨ok_irem F dX7_night_18 (by decide), ?_⟩
  refine List.forall_mem_cons.mpr ⟨ok_istore_n F dX7_night_19 rfl (by decide) (by decide), ?_⟩
  refine List.forall_mem_cons.mpr ⟨ok_iload_n F dX7_night_20 rfl (by decide), ?_⟩
  refine List.forall_mem_cons.mpr ⟨ok_aload_n F dX7_night_21 rfl (by decide), ?_⟩
  refine List.forall_mem_cons.mpr ⟨ok_bipush F dX7_night_22 (by decide) (by decide), ?_⟩
  refine List.forall_mem_cons.mpr ⟨ok_callV F spok_X7_setting (ln_id aW) rcv_aW (by decide +kernel) (by decide) dX7_night_24 (by decide), ?_⟩
  refine List.forall_mem_cons.mpr ⟨ok_icmp_lt F dX7_night_27 (by decide) (by decide) (by decide), ?_⟩
  refine List.forall_mem_cons.mpr ⟨ok_vret F G dX7_night_30 (by decide), ?_⟩
  refine List.forall_mem_cons.mpr ⟨ok_aload_n F dX7_night_31 rfl (by decide), ?_⟩
  refine List.forall_mem_cons.mpr ⟨ok_getf F flX7_7 dX7_night_32 (by decide), ?_⟩
  refine List.forall_mem_cons.mpr ⟨ok_bipush F dX7_night_35 (by decide) (by decide), ?_⟩
  refine List.forall_mem_cons.mpr ⟨ok_dup2 F dX7_night_37 (by decide), ?_⟩
  refine List.forall_mem_cons.mpr ⟨ok_iald F dX7_night_38 (by decide), ?_⟩
  refine List.forall_mem_cons.mpr ⟨ok_aload_n F dX7_night_39 rfl (by decide), ?_⟩
  refine List.forall_mem_cons.mpr ⟨ok_getf F flX7_7 dX7_night_40 (by decide), ?_⟩
  refine List.forall_mem_cons.mpr ⟨ok_iconst F dX7_night_43 (by decide) (by decide), ?_⟩
  refine List.forall_mem_cons.mpr ⟨ok_iald F dX7_night_44 (by decide), ?_⟩
  refine List.forall_mem_cons.mpr ⟨ok_iadd F dX7_night_45 (by decide), ?_⟩
  refine List.forall_mem_cons.mpr ⟨ok_asti F aW_wok dX7_night_46 (by decide), ?_⟩
  refine List.forall_mem_cons.mpr ⟨ok_iload_n F dX7_night_47 rfl (by decide), ?_⟩
  refine List.forall_mem_cons.mpr ⟨ok_aload_n F dX7_night_48 rfl (by decide), ?_⟩
  refine List.forall_mem_cons.mpr ⟨ok_bipush F dX7_night_49 (by decide) (by decide), ?_⟩
  refine List.forall_mem_cons.mpr ⟨ok_callV F spok_X7_setting (ln_id aW) rcv_aW (by decide +kernel) (by decide) dX7_night_51 (by decide), ?_⟩
  refine List.forall_mem_cons.mpr ⟨ok_iconst F dX7_night_54 (by decide) (by decide), ?_⟩
  refine List.forall_mem_cons.mpr ⟨ok_isub F dX7_night_55 (by decide), ?_⟩
  refine List.forall_mem_cons.mpr ⟨ok_icmp_ge F dX7_night_56 (by decide) (by decide) (by decide), ?_⟩
  refine List.forall_mem_cons.mpr ⟨ok_vret F G dX7_night_59 (by decide), ?_⟩
  refine List.forall_mem_cons.mpr ⟨ok_aload_n F dX7_night_60 rfl (by decide), ?_⟩
  refine List.forall_mem_cons.mpr ⟨ok_getf F flX7_7 dX7_night_61 (by decide), ?_⟩
  refine List.forall_mem_cons.mpr ⟨ok_bipush F dX7_night_64 (by decide) (by decide), ?_⟩
  refine List.forall_mem_cons.mpr ⟨ok_iald F dX7_night_66 (by decide), ?_⟩
  refine List.forall_mem_cons.mpr ⟨ok_iconst F dX7_night_67 (by decide) (by decide), ?_⟩
  refine List.forall_mem_cons.mpr ⟨ok_icmp_lt F dX7_night_68 (by decide) (by decide) (by decide), ?_⟩
  refine List.forall_mem_cons.mpr ⟨ok_aload_n F dX7_night_71 rfl (by decide), ?_⟩
  refine List.forall_mem_cons.mpr ⟨ok_getf F flX7_7 dX7_night_72 (by decide), ?_⟩
  refine List.forall_mem_cons.mpr ⟨ok_bipush F dX7_night_75 (by decide) (by decide), ?_⟩
  refine List.forall_mem_cons.mpr ⟨ok_iald F dX7_night_77 (by decide), ?_⟩
  refine List.forall_mem_cons.mpr ⟨ok_aload_n F dX7_night_78 rfl (by decide), ?_⟩
  refine List.forall_mem_cons.mpr ⟨ok_callV F spok_X7_middleNight (ln_id aW) rcv_aW (by decide +kernel) (by decide) dX7_night_79 (by decide), ?_⟩
  refine List.forall_mem_cons.mpr ⟨ok_aload_n F dX7_night_82 rfl (by decide), ?_⟩
  refine List.forall_mem_cons.mpr ⟨ok_bipush F dX7_night_83 (by decide) (by decide), ?_⟩
  refine List.forall_mem_cons.mpr ⟨ok_callV F spok_X7_setting (ln_id aW) rcv_aW (by decide +kernel) (by decide) dX7_night_85 (by decide), ?_⟩
  refine List.forall_mem_cons.mpr ⟨ok_iadd F dX7_night_88 (by decide), ?_⟩
  refine List.forall_mem_cons.mpr ⟨ok_icmp_le F dX7_night_89 (by decide) (by decide) (by decide), ?_⟩
  refine List.forall_mem_cons.mpr ⟨ok_aload_n F dX7_night_92 rfl (by decide), ?_⟩
  refine List.forall_mem_cons.mpr ⟨ok_getf F flX7_7 dX7_night_93 (by decide), ?_⟩
  refine List.forall_mem_cons.mpr ⟨ok_bipush F dX7_night_96 (by decide) (by decide), ?_⟩
  refine List.forall_mem_cons.mpr ⟨ok_dup2 F dX7_night_98 (by decide), ?_⟩
  refine List.forall_mem_cons.mpr ⟨ok_iald F dX7_night_99 (by decide), ?_⟩
  refine List.forall_mem_cons.mpr ⟨ok_iconst F dX7_night_100 (by decide) (by decide), ?_⟩
  refine List.forall_mem_cons.mpr ⟨ok_iadd F dX7_night_101 (by decide), ?_⟩
  refine List.forall_mem_cons.mpr ⟨ok_asti F aW_wok dX7_night_102 (by decide), ?_⟩
  refine List.forall_mem_cons.mpr ⟨ok_aload_n F dX7_night_103 rfl (by decide), ?_⟩
  refine List.forall_mem_cons.mpr ⟨ok_bipush F dX7_night_104 (by decide) (by decide), ?_⟩
  refine List.forall_mem_cons.mpr ⟨ok_iconst F dX7_night_106 (by decide) (by decide), ?_⟩
  refine List.forall_mem_cons.mpr ⟨ok_callV F spoka_X7_event (ln_id aW) rcv_aW (by decide +kernel) (by decide) dX7_night_107 (by decide), ?_⟩
  refine List.forall_mem_cons.mpr ⟨ok_bipush F dX7_night_110 (by decide) (by decide), ?_⟩
  refine List.forall_mem_cons.mpr ⟨ok_istore_n F dX7_night_112 rfl (by decide) (by decide), ?_⟩
  refine List.forall_mem_cons.mpr ⟨ok_iload_n F dX7_night_113 rfl (by decide), ?_⟩
  refine List.forall_mem_cons.mpr ⟨ok_if_le F dX7_night_114 (by decide) (by decide) (by decide), ?_⟩
  refine List.forall_mem_cons.mpr ⟨ok_aload_n F dX7_night_117 rfl (by decide), ?_⟩
  refine List.forall_mem_cons.mpr ⟨ok_getf F flX7_7 dX7_night_118 (by decide), ?_⟩
  refine List.forall_mem_cons.mpr ⟨ok_bipush F dX7_night_121 (by decide) (by decide), ?_⟩
  refine List.forall_mem_cons.mpr ⟨ok_iload_n F dX7_night_123 rfl (by decide), ?_⟩
  refine List.forall_mem_cons.mpr ⟨ok_iadd F dX7_night_124 (by decide), ?_⟩
  refine List.forall_mem_cons.mpr ⟨ok_aload_n F dX7_night_125 rfl (by decide), ?_⟩
  refine List.forall_mem_cons.mpr ⟨ok_getf F flX7_7 dX7_night_126 (by decide), ?_⟩
  refine List.forall_mem_cons.mpr ⟨ok_bipush F dX7_night_129 (by decide) (by decide), ?_⟩
  refine List.forall_mem_cons.mpr ⟨ok_iload_n F dX7_night_131 rfl (by decide), ?_⟩
  refine List.forall_mem_cons.mpr ⟨ok_iadd F dX7_night_132 (by decide), ?_⟩
  refine List.forall_mem_cons.mpr ⟨ok_iconst F dX7_night_133 (by decide) (by decide), ?_⟩
  refine List.forall_mem_cons.mpr ⟨ok_isub F dX7_night_134 (by decide), ?_⟩
  refine List.forall_mem_cons.mpr ⟨ok_iald F dX7_night_135 (by decide), ?_⟩
  refine List.forall_mem_cons.mpr ⟨ok_asti F aW_wok dX7_night_136 (by decide), ?_⟩
  refine List.forall_mem_cons.mpr ⟨ok_iinc F dX7_night_137 (by decide) (by decide) (by decide), ?_⟩
  refine List.forall_mem_cons.mpr ⟨ok_goto F dX7_night_140 (by decide) (by decide) (by decide), ?_⟩
  refine List.forall_mem_cons.mpr ⟨ok_aload_n F dX7_night_143 rfl (by decide), ?_⟩
  refine List.forall_mem_cons.mpr ⟨ok_getf F flX7_7 dX7_night_144 (by decide), ?_⟩
  refine List.forall_mem_cons.mpr ⟨ok_bipush F dX7_night_147 (by decide) (by decide), ?_⟩
  refine List.forall_mem_cons.mpr ⟨ok_aload_n F dX7_night_149 rfl (by decide), ?_⟩
  refine List.forall_mem_cons.mpr ⟨ok_getf F flX7_7 dX7_night_150 (by decide), ?_⟩
  refine List.forall_mem_cons.mpr ⟨ok_bipush F dX7_night_153 (by decide) (by decide), ?_⟩
  refine List.forall_mem_cons.mpr ⟨ok_iald F dX7_night_155 (by decide), ?_⟩
  refine List.forall_mem_cons.mpr ⟨ok_asti F aW_wok dX7_night_156 (by decide), ?_⟩
  refine List.forall_mem_cons.mpr ⟨ok_aload_n F dX7_night_157 rfl (by decide), ?_⟩
  refine List.forall_mem_cons.mpr ⟨ok_getf F flX7_7 dX7_night_158 (by decide), ?_⟩
  refine List.forall_mem_cons.mpr ⟨ok_bipush F dX7_night_161 (by decide) (by decide), ?_⟩
  refine List.forall_mem_cons.mpr ⟨ok_iconst F dX7_night_163 (by decide) (by decide), ?_⟩
  refine List.forall_mem_cons.mpr ⟨ok_asti F aW_wok dX7_night_164 (by decide), ?_⟩
  refine List.forall_mem_cons.mpr ⟨ok_aload_n F dX7_night_165 rfl (by decide), ?_⟩
  refine List.forall_mem_cons.mpr ⟨ok_getf F flX7_7 dX7_night_166 (by decide), ?_⟩
  refine List.forall_mem_cons.mpr ⟨ok_bipush F dX7_night_169 (by decide) (by decide), ?_⟩
  refine List.forall_mem_cons.mpr ⟨ok_dup2 F dX7_night_171 (by decide), ?_⟩
  refine List.forall_mem_cons.mpr ⟨ok_iald F dX7_night_172 (by decide), ?_⟩
  refine List.forall_mem_cons.mpr ⟨ok_aload_n F dX7_night_173 rfl (by decide), ?_⟩
  refine List.forall_mem_cons.mpr ⟨ok_getf F flX7_7 dX7_night_174 (by decide), ?_⟩
  refine List.forall_mem_cons.mpr ⟨ok_bipush F dX7_night_177 (by decide) (by decide), ?_⟩
  refine List.forall_mem_cons.mpr ⟨ok_iald F dX7_night_179 (by decide), ?_⟩
  refine List.forall_mem_cons.mpr ⟨ok_bipush F dX7_night_180 (by decide) (by decide), ?_⟩
  refine List.forall_mem_cons.mpr ⟨ok_icmp_ge F dX7_night_182 (by decide) (by decide) (by decide), ?_⟩
  refine List.forall_mem_cons.mpr ⟨ok_iconst F dX7_night_185 (by decide) (by decide), ?_⟩
  refine List.forall_mem_cons.mpr ⟨ok_goto F dX7_night_186 (by decide) (by decide) (by decide), ?_⟩
  refine List.forall_mem_cons.mpr ⟨ok_iconst F dX7_night_189 (by decide) (by decide), ?_⟩
  refine List.forall_mem_cons.mpr ⟨ok_iadd F dX7_night_190 (by decide), ?_⟩
  refine List.forall_mem_cons.mpr ⟨ok_asti F aW_wok dX7_night_191 (by decide), ?_⟩
  refine List.forall_mem_cons.mpr ⟨ok_vret F G dX7_night_192 (by decide), ?_⟩
  exact fun _ h => absurd h List.not_mem_nil
set_option maxRecDepth 100000 in
theorem w_X7_night : (∀ (K : Kt QT) (n : Nat) (L : xL) (st : List Value) (S : QT), nx cod_X7_night cut_X7_night K (n + 1) 0 L st S = (O_aload 0 1) (nx cod_X7_night cut_X7_night K n) 0 L st S) ∧
  (∀ (K : Kt QT) (n : Nat) (L : xL) (st : List Value) (S : QT), nx cod_X7_night cut_X7_night K (n + 1) 1 L st S = (O_callV 0 0 (fun S => S) (fun _ S' => S') sp_X7_minuteOfDay) (nx cod_X7_night cut_X7_night K n) 1 L st S) ∧
  (∀ (K : Kt QT) (n : Nat) (L : xL) (st : List Value) (S : QT), nx cod_X7_night cut_X7_night K (n + 1) 4 L st S = (O_aload 0 1) (nx cod_X7_night cut_X7_night K n) 4 L st S) ∧
  (∀ (K : Kt QT) (n : Nat) (L : xL) (st : List Value) (S : QT), nx cod_X7_night cut_X7_night K (n + 1) 5 L st S = (O_int 15 2) (nx cod_X7_night cut_X7_night K n) 5 L st S) ∧
  (∀ (K : Kt QT) (n : Nat) (L : xL) (st : List Value) (S : QT), nx cod_X7_night cut_X7_night K (n + 1) 7 L st S = (O_callV 1 0 (fun S => S) (fun _ S' => S') sp_X7_setting) (nx cod_X7_night cut_X7_night K n) 7 L st S) ∧
  (∀ (K : Kt QT) (n : Nat) (L : xL) (st : List Value) (S : QT), nx cod_X7_night cut_X7_night K (n + 1) 10 L st S = (O_isub) (nx cod_X7_night cut_X7_night K n) 10 L st S) ∧
  (∀ (K : Kt QT) (n : Nat) (L : xL) (st : List Value) (S : QT), nx cod_X7_night cut_X7_night K (n + 1) 11 L st S = (O_int 1440 3) (nx cod_X7_night cut_X7_night K n) 11 L st S) ∧
  (∀ (K : Kt QT) (n : Nat) (L : xL) (st : List Value) (S : QT), nx cod_X7_night cut_X7_night K (n + 1) 14 L st S = (O_iadd) (nx cod_X7_night cut_X7_night K n) 14 L st S) ∧
  (∀ (K : Kt QT) (n : Nat) (L : xL) (st : List Value) (S : QT), nx cod_X7_night cut_X7_night K (n + 1) 15 L st S = (O_int 1440 3) (nx cod_X7_night cut_X7_night K n) 15 L st S) ∧
  (∀ (K : Kt QT) (n : Nat) (L : xL) (st : List Value) (S : QT), nx cod_X7_night cut_X7_night K (n + 1) 18 L st S = (O_irem) (nx cod_X7_night cut_X7_night K n) 18 L st S) ∧
  (∀ (K : Kt QT) (n : Nat) (L : xL) (st : List Value) (S : QT), nx cod_X7_night cut_X7_night K (n + 1) 19 L st S = (O_istore 1 1) (nx cod_X7_night cut_X7_night K n) 19 L st S) ∧
  (∀ (K : Kt QT) (n : Nat) (L : xL) (st : List Value) (S : QT), nx cod_X7_night cut_X7_night K (n + 1) 20 L st S = (O_iload 1 1) (nx cod_X7_night cut_X7_night K n) 20 L st S) ∧
  (∀ (K : Kt QT) (n : Nat) (L : xL) (st : List Value) (S : QT), nx cod_X7_night cut_X7_night K (n + 1) 21 L st S = (O_aload 0 1) (nx cod_X7_night cut_X7_night K n) 21 L st S) ∧
  (∀ (K : Kt QT) (n : Nat) (L : xL) (st : List Value) (S : QT), nx cod_X7_night cut_X7_night K (n + 1) 22 L st S = (O_int 16 2) (nx cod_X7_night cut_X7_night K n) 22 L st S) ∧
  (∀ (K : Kt QT) (n : Nat) (L : xL) (st : List Value) (S : QT), nx cod_X7_night cut_X7_night K (n + 1) 24 L st S = (O_callV 1 0 (fun S => S) (fun _ S' => S') sp_X7_setting) (nx cod_X7_night cut_X7_night K n) 24 L st S) ∧
  (∀ (K : Kt QT) (n : Nat) (L : xL) (st : List Value) (S : QT), nx cod_X7_night cut_X7_night K (n + 1) 27 L st S = (O_icmp_lt 31) (nx cod_X7_night cut_X7_night K n) 27 L st S) ∧
  (∀ (K : Kt QT) (n : Nat) (L : xL) (st : List Value) (S : QT), nx cod_X7_night cut_X7_night K (n + 1) 30 L st S = (O_vret) (nx cod_X7_night cut_X7_night K n) 30 L st S) ∧
  (∀ (K : Kt QT) (n : Nat) (L : xL) (st : List Value) (S : QT), nx cod_X7_night cut_X7_night K (n + 1) 31 L st S = (O_aload 0 1) (nx cod_X7_night cut_X7_night K n) 31 L st S) ∧
  (∀ (K : Kt QT) (n : Nat) (L : xL) (st : List Value) (S : QT), nx cod_X7_night cut_X7_night K (n + 1) 32 L st S = (O_getf aW 7 0) (nx cod_X7_night cut_X7_night K n) 32 L st S) ∧
  (∀ (K : Kt QT) (n : Nat) (L : xL) (st : List Value) (S : QT), nx cod_X7_night cut_X7_night K (n + 1) 35 L st S = (O_int 8 2) (nx cod_X7_night cut_X7_night K n) 35 L st S) ∧
  (∀ (K : Kt QT) (n : Nat) (L : xL) (st : List Value) (S : QT), nx cod_X7_night cut_X7_night K (n + 1) 37 L st S = (O_dup2) (nx cod_X7_night cut_X7_night K n) 37 L st S) ∧
  (∀ (K : Kt QT) (n : Nat) (L : xL) (st : List Value) (S : QT), nx cod_X7_night cut_X7_night K (n + 1) 38 L st S = (O_ald aW 0) (nx cod_X7_night cut_X7_night K n) 38 L st S) ∧
  (∀ (K : Kt QT) (n : Nat) (L : xL) (st : List Value) (S : QT), nx cod_X7_night cut_X7_night K (n + 1) 39 L st S = (O_aload 0 1) (nx cod_X7_night cut_X7_night K n) 39 L st S) ∧
  (∀ (K : Kt QT) (n : Nat) (L : xL) (st : List Value) (S : QT), nx cod_X7_night cut_X7_night K (n + 1) 40 L st S = (O_getf aW 7 0) (nx cod_X7_night cut_X7_night K n) 40 L st S) ∧
  (∀ (K : Kt QT) (n : Nat) (L : xL) (st : List Value) (S : QT), nx cod_X7_night cut_X7_night K (n + 1) 43 L st S = (O_int 3 1) (nx cod_X7_night cut_X7_night K n) 43 L st S) ∧
  (∀ (K : Kt QT) (n : Nat) (L : xL) (st : List Value) (S : QT), nx cod_X7_night cut_X7_night K (n + 1) 44 L st S = (O_ald aW 0) (nx cod_X7_night cut_X7_night K n) 44 L st S) ∧
  (∀ (K : Kt QT) (n : Nat) (L : xL) (st : List Value) (S : QT), nx cod_X7_night cut_X7_night K (n + 1) 45 L st S = (O_iadd) (nx cod_X7_night cut_X7_night K n) 45 L st S) ∧
  (∀ (K : Kt QT) (n : Nat) (L : xL) (st : List Value) (S : QT), nx cod_X7_night cut_X7_night K (n + 1) 46 L st S = (O_asti aW aW_wi) (nx cod_X7_night cut_X7_night K n) 46 L st S) ∧
  (∀ (K : Kt QT) (n : Nat) (L : xL) (st : List Value) (S : QT), nx cod_X7_night cut_X7_night K (n + 1) 47 L st S = (O_iload 1 1) (nx cod_X7_night cut_X7_night K n) 47 L st S) ∧
  (∀ (K : Kt QT) (n : Nat) (L : xL) (st : List Value) (S : QT), nx cod_X7_night cut_X7_night K (n + 1) 48 L st S = (O_aload 0 1) (nx cod_X7_night cut_X7_night K n) 48 L st S) ∧
  (∀ (K : Kt QT) (n : Nat) (L : xL) (st : List Value) (S : QT), nx cod_X7_night cut_X7_night K (n + 1) 49 L st S = (O_int 16 2) (nx cod_X7_night cut_X7_night K n) 49 L st S) ∧
  (∀ (K : Kt QT) (n : Nat) (L : xL) (st : List Value) (S : QT), nx cod_X7_night cut_X7_night K (n + 1) 51 L st S = (O_callV 1 0 (fun S => S) (fun _ S' => S') sp_X7_setting) (nx cod_X7_night cut_X7_night K n) 51 L st S) ∧
  (∀ (K : Kt QT) (n : Nat) (L : xL) (st : List Value) (S : QT), nx cod_X7_night cut_X7_night K (n + 1) 54 L st S = (O_int 1 1) (nx cod_X7_night cut_X7_night K n) 54 L st S) ∧
  (∀ (K : Kt QT) (n : Nat) (L : xL) (st : List Value) (S : QT), nx cod_X7_night cut_X7_night K (n + 1) 55 L st S = (O_isub) (nx cod_X7_night cut_X7_night K n) 55 L st S) ∧
  (∀ (K : Kt QT) (n : Nat) (L : xL) (st : List Value) (S : QT), nx cod_X7_night cut_X7_night K (n + 1) 56 L st S = (O_icmp_ge 60) (nx cod_X7_night cut_X7_night K n) 56 L st S) ∧
  (∀ (K : Kt QT) (n : Nat) (L : xL) (st : List Value) (S : QT), nx cod_X7_night cut_X7_night K (n + 1) 59 L st S = (O_vret) (nx cod_X7_night cut_X7_night K n) 59 L st S) ∧
  (∀ (K : Kt QT) (n : Nat) (L : xL) (st : List Value) (S : QT), nx cod_X7_night cut_X7_night K (n + 1) 60 L st S = K 60 L st S) ∧
  (∀ (K : Kt QT) (n : Nat) (L : xL) (st : List Value) (S : QT), nx1 cod_X7_night cut_X7_night K n 60 L st S = (O_aload 0 1) (nx cod_X7_night cut_X7_night K n) 60 L st S) ∧
  (∀ (K : Kt QT) (n : Nat) (L : xL) (st : List Value) (S : QT), nx cod_X7_night cut_X7_night K (n + 1) 61 L st S = (O_getf aW 7 0) (nx cod_X7_night cut_X7_night K n) 61 L st S) ∧
  (∀ (K : Kt QT) (n : Nat) (L : xL) (st : List Value) (S : QT), nx cod_X7_night cut_X7_night K (n + 1) 64 L st S = (O_int 18 2) (nx cod_X7_night cut_X7_night K n) 64 L st S) ∧
  (∀ (K : Kt QT) (n : Nat) (L : xL) (st : List Value) (S : QT), nx cod_X7_night cut_X7_night K (n + 1) 66 L st S = (O_ald aW 0) (nx cod_X7_night cut_X7_night K n) 66 L st S) ∧
  (∀ (K : Kt QT) (n : Nat) (L : xL) (st : List Value) (S : QT), nx cod_X7_night cut_X7_night K (n + 1) 67 L st S = (O_int 3 1) (nx cod_X7_night cut_X7_night K n) 67 L st S) ∧
  (∀ (K : Kt QT) (n : Nat) (L : xL) (st : List Value) (S : QT), nx cod_X7_night cut_X7_night K (n + 1) 68 L st S = (O_icmp_lt 110) (nx cod_X7_night cut_X7_night K n) 68 L st S) ∧
  (∀ (K : Kt QT) (n : Nat) (L : xL) (st : List Value) (S : QT), nx cod_X7_night cut_X7_night K (n + 1) 71 L st S = (O_aload 0 1) (nx cod_X7_night cut_X7_night K n) 71 L st S) ∧
  (∀ (K : Kt QT) (n : Nat) (L : xL) (st : List Value) (S : QT), nx cod_X7_night cut_X7_night K (n + 1) 72 L st S = (O_getf aW 7 0) (nx cod_X7_night cut_X7_night K n) 72 L st S) ∧
  (∀ (K : Kt QT) (n : Nat) (L : xL) (st : List Value) (S : QT), nx cod_X7_night cut_X7_night K (n + 1) 75 L st S = (O_int 8 2) (nx cod_X7_night cut_X7_night K n) 75 L st S) ∧
  (∀ (K : Kt QT) (n : Nat) (L : xL) (st : List Value) (S : QT), nx cod_X7_night cut_X7_night K (n + 1) 77 L st S = (O_ald aW 0) (nx cod_X7_night cut_X7_night K n) 77 L st S) ∧
  (∀ (K : Kt QT) (n : Nat) (L : xL) (st : List Value) (S : QT), nx cod_X7_night cut_X7_night K (n + 1) 78 L st S = (O_aload 0 1) (nx cod_X7_night cut_X7_night K n) 78 L st S) ∧
  (∀ (K : Kt QT) (n : Nat) (L : xL) (st : List Value) (S : QT), nx cod_X7_night cut_X7_night K (n + 1) 79 L st S = (O_callV 0 0 (fun S => S) (fun _ S' => S') sp_X7_middleNight) (nx cod_X7_night cut_X7_night K n) 79 L st S) ∧
  (∀ (K : Kt QT) (n : Nat) (L : xL) (st : List Value) (S : QT), nx cod_X7_night cut_X7_night K (n + 1) 82 L st S = (O_aload 0 1) (nx cod_X7_night cut_X7_night K n) 82 L st S) ∧
  (∀ (K : Kt QT) (n : Nat) (L : xL) (st : List Value) (S : QT), nx cod_X7_night cut_X7_night K (n + 1) 83 L st S = (O_int 17 2) (nx cod_X7_night cut_X7_night K n) 83 L st S) ∧
  (∀ (K : Kt QT) (n : Nat) (L : xL) (st : List Value) (S : QT), nx cod_X7_night cut_X7_night K (n + 1) 85 L st S = (O_callV 1 0 (fun S => S) (fun _ S' => S') sp_X7_setting) (nx cod_X7_night cut_X7_night K n) 85 L st S) ∧
  (∀ (K : Kt QT) (n : Nat) (L : xL) (st : List Value) (S : QT), nx cod_X7_night cut_X7_night K (n + 1) 88 L st S = (O_iadd) (nx cod_X7_night cut_X7_night K n) 88 L st S) ∧
  (∀ (K : Kt QT) (n : Nat) (L : xL) (st : List Value) (S : QT), nx cod_X7_night cut_X7_night K (n + 1) 89 L st S = (O_icmp_le 110) (nx cod_X7_night cut_X7_night K n) 89 L st S) ∧
  (∀ (K : Kt QT) (n : Nat) (L : xL) (st : List Value) (S : QT), nx cod_X7_night cut_X7_night K (n + 1) 92 L st S = (O_aload 0 1) (nx cod_X7_night cut_X7_night K n) 92 L st S) ∧
  (∀ (K : Kt QT) (n : Nat) (L : xL) (st : List Value) (S : QT), nx cod_X7_night cut_X7_night K (n + 1) 93 L st S = (O_getf aW 7 0) (nx cod_X7_night cut_X7_night K n) 93 L st S) ∧
  (∀ (K : Kt QT) (n : Nat) (L : xL) (st : List Value) (S : QT), nx cod_X7_night cut_X7_night K (n + 1) 96 L st S = (O_int 9 2) (nx cod_X7_night cut_X7_night K n) 96 L st S) ∧
  (∀ (K : Kt QT) (n : Nat) (L : xL) (st : List Value) (S : QT), nx cod_X7_night cut_X7_night K (n + 1) 98 L st S = (O_dup2) (nx cod_X7_night cut_X7_night K n) 98 L st S) ∧
  (∀ (K : Kt QT) (n : Nat) (L : xL) (st : List Value) (S : QT), nx cod_X7_night cut_X7_night K (n + 1) 99 L st S = (O_ald aW 0) (nx cod_X7_night cut_X7_night K n) 99 L st S) ∧
  (∀ (K : Kt QT) (n : Nat) (L : xL) (st : List Value) (S : QT), nx cod_X7_night cut_X7_night K (n + 1) 100 L st S = (O_int 1 1) (nx cod_X7_night cut_X7_night K n) 100 L st S) ∧
  (∀ (K : Kt QT) (n : Nat) (L : xL) (st : List Value) (S : QT), nx cod_X7_night cut_X7_night K (n + 1) 101 L st S = (O_iadd) (nx cod_X7_night cut_X7_night K n) 101 L st S) ∧
  (∀ (K : Kt QT) (n : Nat) (L : xL) (st : List Value) (S : QT), nx cod_X7_night cut_X7_night K (n + 1) 102 L st S = (O_asti aW aW_wi) (nx cod_X7_night cut_X7_night K n) 102 L st S) ∧
  (∀ (K : Kt QT) (n : Nat) (L : xL) (st : List Value) (S : QT), nx cod_X7_night cut_X7_night K (n + 1) 103 L st S = (O_aload 0 1) (nx cod_X7_night cut_X7_night K n) 103 L st S) ∧
  (∀ (K : Kt QT) (n : Nat) (L : xL) (st : List Value) (S : QT), nx cod_X7_night cut_X7_night K (n + 1) 104 L st S = (O_int 6 2) (nx cod_X7_night cut_X7_night K n) 104 L st S) ∧
  (∀ (K : Kt QT) (n : Nat) (L : xL) (st : List Value) (S : QT), nx cod_X7_night cut_X7_night K (n + 1) 106 L st S = (O_int (-1) 1) (nx cod_X7_night cut_X7_night K n) 106 L st S) ∧
  (∀ (K : Kt QT) (n : Nat) (L : xL) (st : List Value) (S : QT), nx cod_X7_night cut_X7_night K (n + 1) 107 L st S = (O_callV 2 0 (fun S => S) (fun _ S' => S') spa_X7_event) (nx cod_X7_night cut_X7_night K n) 107 L st S) ∧
  (∀ (K : Kt QT) (n : Nat) (L : xL) (st : List Value) (S : QT), nx cod_X7_night cut_X7_night K (n + 1) 110 L st S = K 110 L st S) ∧
  (∀ (K : Kt QT) (n : Nat) (L : xL) (st : List Value) (S : QT), nx1 cod_X7_night cut_X7_night K n 110 L st S = (O_int 6 2) (nx cod_X7_night cut_X7_night K n) 110 L st S) ∧
  (∀ (K : Kt QT) (n : Nat) (L : xL) (st : List Value) (S : QT), nx cod_X7_night cut_X7_night K (n + 1) 112 L st S = (O_istore 2 1) (nx cod_X7_night cut_X7_night K n) 112 L st S) ∧
  (∀ (K : Kt QT) (n : Nat) (L : xL) (st : List Value) (S : QT), nx cod_X7_night cut_X7_night K (n + 1) 113 L st S = K 113 L st S) ∧
  (∀ (K : Kt QT) (n : Nat) (L : xL) (st : List Value) (S : QT), nx1 cod_X7_night cut_X7_night K n 113 L st S = (O_iload 2 1) (nx cod_X7_night cut_X7_night K n) 113 L st S) ∧
  (∀ (K : Kt QT) (n : Nat) (L : xL) (st : List Value) (S : QT), nx cod_X7_night cut_X7_night K (n + 1) 114 L st S = (O_if_le 143) (nx cod_X7_night cut_X7_night K n) 114 L st S) ∧
  (∀ (K : Kt QT) (n : Nat) (L : xL) (st : List Value) (S : QT), nx cod_X7_night cut_X7_night K (n + 1) 117 L st S = (O_aload 0 1) (nx cod_X7_night cut_X7_night K n) 117 L st S) ∧
  (∀ (K : Kt QT) (n : Nat) (L : xL) (st : List Value) (S : QT), nx cod_X7_night cut_X7_night K (n + 1) 118 L st S = (O_getf aW 7 0) (nx cod_X7_night cut_X7_night K n) 118 L st S) ∧
  (∀ (K : Kt QT) (n : Nat) (L : xL) (st : List Value) (S : QT), nx cod_X7_night cut_X7_night K (n + 1) 121 L st S = (O_int 127 2) (nx cod_X7_night cut_X7_night K n) 121 L st S) ∧
  (∀ (K : Kt QT) (n : Nat) (L : xL) (st : List Value) (S : QT), nx cod_X7_night cut_X7_night K (n + 1) 123 L st S = (O_iload 2 1) (nx cod_X7_night cut_X7_night K n) 123 L st S) ∧
  (∀ (K : Kt QT) (n : Nat) (L : xL) (st : List Value) (S : QT), nx cod_X7_night cut_X7_night K (n + 1) 124 L st S = (O_iadd) (nx cod_X7_night cut_X7_night K n) 124 L st S) ∧
  (∀ (K : Kt QT) (n : Nat) (L : xL) (st : List Value) (S : QT), nx cod_X7_night cut_X7_night K (n + 1) 125 L st S = (O_aload 0 1) (nx cod_X7_night cut_X7_night K n) 125 L st S) ∧
  (∀ (K : Kt QT) (n : Nat) (L : xL) (st : List Value) (S : QT), nx cod_X7_night cut_X7_night K (n + 1) 126 L st S = (O_getf aW 7 0) (nx cod_X7_night cut_X7_night K n) 126 L st S) ∧
  (∀ (K : Kt QT) (n : Nat) (L : xL) (st : List Value) (S : QT), nx cod_X7_night cut_X7_night K (n + 1) 129 L st S = (O_int 127 2) (nx cod_X7_night cut_X7_night K n) 129 L st S) ∧
  (∀ (K : Kt QT) (n : Nat) (L : xL) (st : List Value) (S : QT), nx cod_X7_night cut_X7_night K (n + 1) 131 L st S = (O_iload 2 1) (nx cod_X7_night cut_X7_night K n) 131 L st S) ∧
  (∀ (K : Kt QT) (n : Nat) (L : xL) (st : List Value) (S : QT), nx cod_X7_night cut_X7_night K (n + 1) 132 L st S = (O_iadd) (nx cod_X7_night cut_X7_night K n) 132 L st S) ∧
  (∀ (K : Kt QT) (n : Nat) (L : xL) (st : List Value) (S : QT), nx cod_X7_night cut_X7_night K (n + 1) 133 L st S = (O_int 1 1) (nx cod_X7_night cut_X7_night K n) 133 L st S) ∧
  (∀ (K : Kt QT) (n : Nat) (L : xL) (st : List Value) (S : QT), nx cod_X7_night cut_X7_night K (n + 1) 134 L st S = (O_isub) (nx cod_X7_night cut_X7_night K n) 134 L st S) ∧
  (∀ (K : Kt QT) (n : Nat) (L : xL) (st : List Value) (S : QT), nx cod_X7_night cut_X7_night K (n + 1) 135 L st S = (O_ald aW 0) (nx cod_X7_night cut_X7_night K n) 135 L st S) ∧
  (∀ (K : Kt QT) (n : Nat) (L : xL) (st : List Value) (S : QT), nx cod_X7_night cut_X7_night K (n + 1) 136 L st S = (O_asti aW aW_wi) (nx cod_X7_night cut_X7_night K n) 136 L st S) ∧
  (∀ (K : Kt QT) (n : Nat) (L : xL) (st : List Value) (S : QT), nx cod_X7_night cut_X7_night K (n + 1) 137 L st S = (O_iinc 2 (-1)) (nx cod_X7_night cut_X7_night K n) 137 L st S) ∧
  (∀ (K : Kt QT) (n : Nat) (L : xL) (st : List Value) (S : QT), nx cod_X7_night cut_X7_night K (n + 1) 140 L st S = (O_goto 113) (nx cod_X7_night cut_X7_night K n) 140 L st S) ∧
  (∀ (K : Kt QT) (n : Nat) (L : xL) (st : List Value) (S : QT), nx cod_X7_night cut_X7_night K (n + 1) 143 L st S = (O_aload 0 1) (nx cod_X7_night cut_X7_night K n) 143 L st S) ∧
  (∀ (K : Kt QT) (n : Nat) (L : xL) (st : List Value) (S : QT), nx cod_X7_night cut_X7_night K (n + 1) 144 L st S = (O_getf aW 7 0) (nx cod_X7_night cut_X7_night K n) 144 L st S) ∧
  (∀ (K : Kt QT) (n : Nat) (L : xL) (st : List Value) (S : QT), nx cod_X7_night cut_X7_night K (n + 1) 147 L st S = (O_int 127 2) (nx cod_X7_night cut_X7_night K n) 147 L st S) ∧
  (∀ (K : Kt QT) (n : Nat) (L : xL) (st : List Value) (S : QT), nx cod_X7_night cut_X7_night K (n + 1) 149 L st S = (O_aload 0 1) (nx cod_X7_night cut_X7_night K n) 149 L st S) ∧
  (∀ (K : Kt QT) (n : Nat) (L : xL) (st : List Value) (S : QT), nx cod_X7_night cut_X7_night K (n + 1) 150 L st S = (O_getf aW 7 0) (nx cod_X7_night cut_X7_night K n) 150 L st S) ∧
  (∀ (K : Kt QT) (n : Nat) (L : xL) (st : List Value) (S : QT), nx cod_X7_night cut_X7_night K (n + 1) 153 L st S = (O_int 8 2) (nx cod_X7_night cut_X7_night K n) 153 L st S) ∧
  (∀ (K : Kt QT) (n : Nat) (L : xL) (st : List Value) (S : QT), nx cod_X7_night cut_X7_night K (n + 1) 155 L st S = (O_ald aW 0) (nx cod_X7_night cut_X7_night K n) 155 L st S) ∧
  (∀ (K : Kt QT) (n : Nat) (L : xL) (st : List Value) (S : QT), nx cod_X7_night cut_X7_night K (n + 1) 156 L st S = (O_asti aW aW_wi) (nx cod_X7_night cut_X7_night K n) 156 L st S) ∧
  (∀ (K : Kt QT) (n : Nat) (L : xL) (st : List Value) (S : QT), nx cod_X7_night cut_X7_night K (n + 1) 157 L st S = (O_aload 0 1) (nx cod_X7_night cut_X7_night K n) 157 L st S) ∧
  (∀ (K : Kt QT) (n : Nat) (L : xL) (st : List Value) (S : QT), nx cod_X7_night cut_X7_night K (n + 1) 158 L st S = (O_getf aW 7 0) (nx cod_X7_night cut_X7_night K n) 158 L st S) ∧
  (∀ (K : Kt QT) (n : Nat) (L : xL) (st : List Value) (S : QT), nx cod_X7_night cut_X7_night K (n + 1) 161 L st S = (O_int 8 2) (nx cod_X7_night cut_X7_night K n) 161 L st S) ∧
  (∀ (K : Kt QT) (n : Nat) (L : xL) (st : List Value) (S : QT), nx cod_X7_night cut_X7_night K (n + 1) 163 L st S = (O_int 0 1) (nx cod_X7_night cut_X7_night K n) 163 L st S) ∧
  (∀ (K : Kt QT) (n : Nat) (L : xL) (st : List Value) (S : QT), nx cod_X7_night cut_X7_night K (n + 1) 164 L st S = (O_asti aW aW_wi) (nx cod_X7_night cut_X7_night K n) 164 L st S) ∧
  (∀ (K : Kt QT) (n : Nat) (L : xL) (st : List Value) (S : QT), nx cod_X7_night cut_X7_night K (n + 1) 165 L st S = (O_aload 0 1) (nx cod_X7_night cut_X7_night K n) 165 L st S) ∧
  (∀ (K : Kt QT) (n : Nat) (L : xL) (st : List Value) (S : QT), nx cod_X7_night cut_X7_night K (n + 1) 166 L st S = (O_getf aW 7 0) (nx cod_X7_night cut_X7_night K n) 166 L st S) ∧
  (∀ (K : Kt QT) (n : Nat) (L : xL) (st : List Value) (S : QT), nx cod_X7_night cut_X7_night K (n + 1) 169 L st S = (O_int 18 2) (nx cod_X7_night cut_X7_night K n) 169 L st S) ∧
  (∀ (K : Kt QT) (n : Nat) (L : xL) (st : List Value) (S : QT), nx cod_X7_night cut_X7_night K (n + 1) 171 L st S = (O_dup2) (nx cod_X7_night cut_X7_night K n) 171 L st S) ∧
  (∀ (K : Kt QT) (n : Nat) (L : xL) (st : List Value) (S : QT), nx cod_X7_night cut_X7_night K (n + 1) 172 L st S = (O_ald aW 0) (nx cod_X7_night cut_X7_night K n) 172 L st S) ∧
  (∀ (K : Kt QT) (n : Nat) (L : xL) (st : List Value) (S : QT), nx cod_X7_night cut_X7_night K (n + 1) 173 L st S = (O_aload 0 1) (nx cod_X7_night cut_X7_night K n) 173 L st S) ∧
  (∀ (K : Kt QT) (n : Nat) (L : xL) (st : List Value) (S : QT), nx cod_X7_night cut_X7_night K (n + 1) 174 L st S = (O_getf aW 7 0) (nx cod_X7_night cut_X7_night K n) 174 L st S) ∧
  (∀ (K : Kt QT) (n : Nat) (L : xL) (st : List Value) (S : QT), nx cod_X7_night cut_X7_night K (n + 1) 177 L st S = (O_int 18 2) (nx cod_X7_night cut_X7_night K n) 177 L st S) ∧
  (∀ (K : Kt QT) (n : Nat) (L : xL) (st : List Value) (S : QT), nx cod_X7_night cut_X7_night K (n + 1) 179 L st S = (O_ald aW 0) (nx cod_X7_night cut_X7_night K n) 179 L st S) ∧
  (∀ (K : Kt QT) (n : Nat) (L : xL) (st : List Value) (S : QT), nx cod_X7_night cut_X7_night K (n + 1) 180 L st S = (O_int 7 2) (nx cod_X7_night cut_X7_night K n) 180 L st S) ∧
  (∀ (K : Kt QT) (n : Nat) (L : xL) (st : List Value) (S : QT), nx cod_X7_night cut_X7_night K (n + 1) 182 L st S = (O_icmp_ge 189) (nx cod_X7_night cut_X7_night K n) 182 L st S) ∧
  (∀ (K : Kt QT) (n : Nat) (L : xL) (st : List Value) (S : QT), nx cod_X7_night cut_X7_night K (n + 1) 185 L st S = (O_int 1 1) (nx cod_X7_night cut_X7_night K n) 185 L st S) ∧
  (∀ (K : Kt QT) (n : Nat) (L : xL) (st : List Value) (S : QT), nx cod_X7_night cut_X7_night K (n + 1) 186 L st S = (O_goto 190) (nx cod_X7_night cut_X7_night K n) 186 L st S) ∧
  (∀ (K : Kt QT) (n : Nat) (L : xL) (st : List Value) (S : QT), nx cod_X7_night cut_X7_night K (n + 1) 189 L st S = (O_int 0 1) (nx cod_X7_night cut_X7_night K n) 189 L st S) ∧
  (∀ (K : Kt QT) (n : Nat) (L : xL) (st : List Value) (S : QT), nx cod_X7_night cut_X7_night K (n + 1) 190 L st S = (O_iadd) (nx cod_X7_night cut_X7_night K n) 190 L st S) ∧
  (∀ (K : Kt QT) (n : Nat) (L : xL) (st : List Value) (S : QT), nx cod_X7_night cut_X7_night K (n + 1) 191 L st S = (O_asti aW aW_wi) (nx cod_X7_night cut_X7_night K n) 191 L st S) ∧
  (∀ (K : Kt QT) (n : Nat) (L : xL) (st : List Value) (S : QT), nx cod_X7_night cut_X7_night K (n + 1) 192 L st S = (O_vret) (nx cod_X7_night cut_X7_night K n) 192 L st S) ∧
  (∀ (K : Kt QT) (n : Nat) (L : xL) (st : List Value) (S : QT), nx cod_X7_night cut_X7_night K (n + 1) 100000 L st S = K 100000 L st S) := by
  repeat' apply And.intro
  all_goals (intros; rfl)
set_option maxRecDepth 100000 in
theorem mk_X7_night {P P' : QT} {r : Option Value}  (body : ∀ E : En, CodOk E aW cod_X7_night → Gd E aW 100000 [] r.toList P' → Gd E aW 0 [some (.ref 0), none, none] [] P) : Con yX7_night cX7_night 3 none 1 aW [.ref 0] P r P' :=
  Con.of (by decide) ((aW_len P').trans (aW_len P).symm) rfl (Nat.le_of_ble_eq_true rfl) (fun E F G hr => body E (okc_X7_night F G) hr)
set_option maxRecDepth 10000 in
theorem con_X7_night (S : ST) (M : MT) (fl : Bool)  (hp : S.inv 1 ∧ fl = true) : Con yX7_night cX7_night 3 none 1 aW [.ref 0] (S, M, fl) (none) ((S.night, M, fl)) := by
  refine mk_X7_night (fun E C hr => ?_)
  obtain ⟨hi, rfl⟩ := hp
  have hN := hi.2.2.1
  have h113 : ∀ T : ST, T.N.ok → Gd E aW 100000 [] [] (T.sN T.N.note, M, true) → Gd E aW 113 [some (.ref 0), some (.int S.into), some (.int 6)] [] (T, M, true) := by
    intro T hT hh
    have key : Gd E aW 113 [some (.ref 0), some (.int S.into), some (.int (nI (6 - 0)))] [] (T.sN T.N, M, true) := by
      refine it_up (f := NT.shift) (a := T.N) (n := 6) (fun _ _ => True) (fun k U => Gd E aW 113 [some (.ref 0), some (.int S.into), some (.int (nI (6 - k)))] [] (T.sN U, M, true)) trivial (fun _ _ _ _ => trivial) (fun k U hk _ hn => ?_) ?_
      · have hx := n6 k hk
        have hy := n6' k hk
        have h1 := at_night (k := 6 - k) (by omega)
        have h2 := at_night (k := 5 - k) (by omega)
        have h3 := abs_night (T.sN U) (k := 5 - k) (by omega)
        have h4 := fun x => sn_wr (T.sN U) M true (127 + (6 - k)) x (by omega) (by omega) (by omega)
        simp only [wr_night (T.sN U) (k := 6 - k) (by omega), ST_gs] at h4
        simp only [ST_gs] at h3
        clear hr hh
        (refine nx1_ok C cut_X7_night 1000 ?_; simp only [w_X7_night, ops_eq, xst_eq, call_eq, oK_eq, Option.toList_some, Option.toList_none, List.cons_append, List.nil_append, List.length_cons, List.length_nil, true_and, and_true, Nat.reduceAdd, aW_F, aW_A, aW_P, aW_w, abs_eq, O_asti_eq, v170, cl_eq, ST_id, MT_gs, ST_gs, PT_gs, ZT_gs, NT_gs, ET_gs, se_X7_minuteOfDay, se_X7_setting, se_X7_middleNight, sea_X7_event, hx, hy, h1.2, h2.2, h3, h4])
        ((repeat' (with_reducible first | apply And.intro | intro _)) <;> simp_all [NT.shift, ST_id, MT_gs, ST_gs, PT_gs, ZT_gs, NT_gs, ET_gs])
      · obtain ⟨g1, g2, g3⟩ := shift_keep T.N
        rw [note_eq hT] at hh
        have h3 := abs_night (T.sN (it NT.shift T.N 6)) (k := 0) (by omega)
        have h4 := fun x => sn_wr (T.sN (it NT.shift T.N 6)) M true 127 x (by omega) (by omega) (by omega)
        have h5 := fun x => wr_night (T.sN (it NT.shift T.N 6)) (k := 0) (by omega) x
        simp only [Nat.add_zero] at h5
        simp only [h5, ST_gs] at h4
        clear hr h5 h3
        (refine nx1_ok C cut_X7_night 1000 ?_; simp only [w_X7_night, ops_eq, xst_eq, call_eq, oK_eq, Option.toList_some, Option.toList_none, List.cons_append, List.nil_append, List.length_cons, List.length_nil, true_and, and_true, Nat.reduceAdd, aW_F, aW_A, aW_P, aW_w, abs_eq, O_asti_eq, v170, cl_eq, ST_id, MT_gs, ST_gs, PT_gs, ZT_gs, NT_gs, ET_gs, se_X7_minuteOfDay, se_X7_setting, se_X7_middleNight, sea_X7_event, show nI (6 - 6) = 0 from rfl, g1, g2, g3, h4, show vp_in 127 170 from vp_in_nI (n := 127) (by omega) (by omega), show (127 : Int32).toNatClampNeg = 127 from rfl, NT_gs])
        by_cases c : T.N.size < 7
        · simp only [c, if_true] at hh
          ((repeat' (with_reducible first | apply And.intro | intro _)) <;> simp_all [ST_id, MT_gs, ST_gs, PT_gs, ZT_gs, NT_gs, ET_gs])
        · simp only [c, if_false] at hh
          ((repeat' (with_reducible first | apply And.intro | intro _)) <;> simp_all [ST_id, MT_gs, ST_gs, PT_gs, ZT_gs, NT_gs, ET_gs])
    exact key
  have h110 : ∀ T : ST, T.N.ok → Gd E aW 100000 [] [] (T.sN T.N.note, M, true) → Gd E aW 110 [some (.ref 0), some (.int S.into), none] [] (T, M, true) := by
    intro T hT hh
    have hh := h113 T hT hh
    clear h113 hr
    (refine nx1_ok C cut_X7_night 1000 ?_; simp only [w_X7_night, ops_eq, xst_eq, call_eq, oK_eq, Option.toList_some, Option.toList_none, List.cons_append, List.nil_append, List.length_cons, List.length_nil, true_and, and_true, Nat.reduceAdd, aW_F, aW_A, aW_P, aW_w, abs_eq, O_asti_eq, v170, cl_eq, ST_id, MT_gs, ST_gs, PT_gs, ZT_gs, NT_gs, ET_gs, se_X7_minuteOfDay, se_X7_setting, se_X7_middleNight, sea_X7_event])
    ((repeat' (with_reducible first | apply And.intro | intro _)) <;> simp_all [ST_id, MT_gs, ST_gs, PT_gs, ZT_gs, NT_gs, ET_gs])
  by_cases c1 : S.into < S.settings 16
  · by_cases c2 : S.into < S.settings 16 - 1
    · have e : S.night = S.night1 := by unfold ST.night; rw [if_neg (fun z => z c1), if_pos c2]
      rw [e] at hr
      clear h113 h110 e
      unfold ST.into at c1 c2
      (refine nx_ok C (cuts := cut_X7_night) 1000 _ _ _ _ ?_; simp only [w_X7_night, ops_eq, xst_eq, call_eq, oK_eq, Option.toList_some, Option.toList_none, List.cons_append, List.nil_append, List.length_cons, List.length_nil, true_and, and_true, Nat.reduceAdd, aW_F, aW_A, aW_P, aW_w, abs_eq, O_asti_eq, v170, cl_eq, ST_id, MT_gs, ST_gs, PT_gs, ZT_gs, NT_gs, ET_gs, se_X7_minuteOfDay, se_X7_setting, se_X7_middleNight, sea_X7_event, v19_eq, dv_eq, rem_eq, c1, c2])
      ((repeat' (with_reducible first | apply And.intro | intro _)) <;> simp_all [ST.night1, ST_id, MT_gs, ST_gs, PT_gs, ZT_gs, NT_gs, ET_gs])
    · have e : S.night = S.night2.sN S.night2.N.note := by unfold ST.night; rw [if_neg (fun z => z c1), if_neg c2]
      rw [e] at hr
      have hN2 : S.night2.N.ok := (ST.night2_ok (ST.inv_ok hi)).2.2
      have h2 := h110 S.night2 hN2 hr
      clear h110 h113 hr e
      have hn1 : S.night1.N.ok := hN
      have h60 : Gd E aW 60 [some (.ref 0), some (.int S.into), none] [] (S.night1, M, true) := by
        have hE : (S.night1.sN (S.night1.N.sAlarms (S.night1.N.alarms + 1))).E.rm := ST.inv_rm (n := 0) hi
        by_cases d : S.night1.N.tells (S.settings 17) = true
        · have e2 : S.night2 = (S.night1.sN (S.night1.N.sAlarms (S.night1.N.alarms + 1))).event 6 (-1) := if_pos d
          rw [e2] at h2
          simp only [NT.tells, decide_eq_true_eq] at d
          obtain ⟨d1, d2⟩ := d
          have es : S.night1.settings = S.settings := rfl
          clear e2 hN hi
          generalize S.night1 = T at *
          (refine nx1_ok C cut_X7_night 1000 ?_; simp only [w_X7_night, ops_eq, xst_eq, call_eq, oK_eq, Option.toList_some, Option.toList_none, List.cons_append, List.nil_append, List.length_cons, List.length_nil, true_and, and_true, Nat.reduceAdd, aW_F, aW_A, aW_P, aW_w, abs_eq, O_asti_eq, v170, cl_eq, ST_id, MT_gs, ST_gs, PT_gs, ZT_gs, NT_gs, ET_gs, se_X7_minuteOfDay, se_X7_setting, se_X7_middleNight, sea_X7_event, ev_t, v19_eq, v8_eq, hn1, hE, d1, d2, es])
          ((repeat' (with_reducible first | apply And.intro | intro _)) <;> simp_all [ST_id, MT_gs, ST_gs, PT_gs, ZT_gs, NT_gs, ET_gs])
        · have e2 : S.night2 = S.night1 := if_neg d
          rw [e2] at h2
          simp only [NT.tells, decide_eq_true_eq] at d
          have es : S.night1.settings = S.settings := rfl
          clear e2 hN hi
          generalize S.night1 = T at *
          by_cases d1 : T.N.size < 3
          · (refine nx1_ok C cut_X7_night 1000 ?_; simp only [w_X7_night, ops_eq, xst_eq, call_eq, oK_eq, Option.toList_some, Option.toList_none, List.cons_append, List.nil_append, List.length_cons, List.length_nil, true_and, and_true, Nat.reduceAdd, aW_F, aW_A, aW_P, aW_w, abs_eq, O_asti_eq, v170, cl_eq, ST_id, MT_gs, ST_gs, PT_gs, ZT_gs, NT_gs, ET_gs, se_X7_minuteOfDay, se_X7_setting, se_X7_middleNight, sea_X7_event, ev_t, v19_eq, v8_eq, hn1, hE, d1, es])
            ((repeat' (with_reducible first | apply And.intro | intro _)) <;> simp_all [ST_id, MT_gs, ST_gs, PT_gs, ZT_gs, NT_gs, ET_gs])
          · have d2 : ¬ T.N.mid + S.settings 17 < T.N.flow := fun z => d ⟨d1, z⟩
            (refine nx1_ok C cut_X7_night 1000 ?_; simp only [w_X7_night, ops_eq, xst_eq, call_eq, oK_eq, Option.toList_some, Option.toList_none, List.cons_append, List.nil_append, List.length_cons, List.length_nil, true_and, and_true, Nat.reduceAdd, aW_F, aW_A, aW_P, aW_w, abs_eq, O_asti_eq, v170, cl_eq, ST_id, MT_gs, ST_gs, PT_gs, ZT_gs, NT_gs, ET_gs, se_X7_minuteOfDay, se_X7_setting, se_X7_middleNight, sea_X7_event, ev_t, v19_eq, v8_eq, hn1, hE, d1, d2, es])
            ((repeat' (with_reducible first | apply And.intro | intro _)) <;> simp_all [ST_id, MT_gs, ST_gs, PT_gs, ZT_gs, NT_gs, ET_gs])
      have eI : (S.time % 1440 - S.settings 15 + 1440) % 1440 = S.into := rfl
      have eN : S.sN (S.N.sFlow (S.N.flow + S.supply)) = S.night1 := rfl
      (refine nx_ok C (cuts := cut_X7_night) 1000 _ _ _ _ ?_; simp only [w_X7_night, ops_eq, xst_eq, call_eq, oK_eq, Option.toList_some, Option.toList_none, List.cons_append, List.nil_append, List.length_cons, List.length_nil, true_and, and_true, Nat.reduceAdd, aW_F, aW_A, aW_P, aW_w, abs_eq, O_asti_eq, v170, cl_eq, ST_id, MT_gs, ST_gs, PT_gs, ZT_gs, NT_gs, ET_gs, se_X7_minuteOfDay, se_X7_setting, se_X7_middleNight, sea_X7_event, v19_eq, dv_eq, rem_eq, c1, c2, eI, eN])
      ((repeat' (with_reducible first | apply And.intro | intro _)) <;> simp_all [ST_id, MT_gs, ST_gs, PT_gs, ZT_gs, NT_gs, ET_gs])
  · have e : S.night = S := by unfold ST.night; rw [if_pos c1]
    rw [e] at hr
    clear h113 h110 e
    unfold ST.into at c1
    (refine nx_ok C (cuts := cut_X7_night) 1000 _ _ _ _ ?_; simp only [w_X7_night, ops_eq, xst_eq, call_eq, oK_eq, Option.toList_some, Option.toList_none, List.cons_append, List.nil_append, List.length_cons, List.length_nil, true_and, and_true, Nat.reduceAdd, aW_F, aW_A, aW_P, aW_w, abs_eq, O_asti_eq, v170, cl_eq, ST_id, MT_gs, ST_gs, PT_gs, ZT_gs, NT_gs, ET_gs, se_X7_minuteOfDay, se_X7_setting, se_X7_middleNight, sea_X7_event, v19_eq, dv_eq, rem_eq, c1])
    ((repeat' (with_reducible first | apply And.intro | intro _)) <;> simp_all [ST_id, MT_gs, ST_gs, PT_gs, ZT_gs, NT_gs, ET_gs])
def spc_X7_night (S : ST) (M : MT) (fl : Bool)  (K : Option Value → QT → Prop) : Prop := (S.inv 1 ∧ fl = true) ∧ K (none) ((S.night, M, fl))
def sp_X7_night : Sp QT := fun av q K => match av with
  | [.ref 0] => spc_X7_night q.1 q.2.1 q.2.2  K
  | _ => False
theorem se_X7_night (S : ST) (M : MT) (fl : Bool)  (K : Option Value → QT → Prop) : sp_X7_night [.ref 0] (S, M, fl) K = ((S.inv 1 ∧ fl = true) ∧ K (none) ((S.night, M, fl))) := rfl
theorem spok_X7_night : SpOk yX7_night cX7_night 3 none 1 aW sp_X7_night := by
  intro av q K h
  unfold sp_X7_night at h
  split at h
  · refine ⟨_, _, ?_, con_X7_night q.1 q.2.1 q.2.2  h.1, h.2⟩; trivial
  · exact h.elim
