/-! ===== Nights, Events ===== -/
def NT.n (S : NT) : Nat := S.size.toNatClampNeg
def NT.ok (S : NT) : Prop := isN S.size S.n 7
def NT.has (S : NT) (p : Int32) : Bool := decide (¬ p < 0 ∧ p < S.size)
def NT.ahead (S : NT) (i : Nat) : Int32 := it (fun j r => r + bI (decide (S.noted j < S.noted i ∨ S.noted j = S.noted i ∧ j < i))) 0 S.n
def NT.mid (S : NT) : Int32 := match fstN (fun i => decide (S.ahead i = (S.size - 1) / 2)) S.n with
  | some i => S.noted i
  | none => 0
theorem flX1_9 : fldOk RX1 9 1 0 = true := by decide +kernel
theorem flX1_19 : fldOk RX1 19 1 1 = true := by decide +kernel
def cod_X1_middle : List (Nat × Op NT) := [(0, O_int 0 1), (1, O_istore 1 1), (2, O_iload 1 1), (3, O_aload 0 1), (4, O_getf nW 1 1), (7, O_icmp_ge 108), (10, O_int 0 1), (11, O_istore 2 1), (12, O_int 0 1), (13, O_istore 3 1), (14, O_iload 3 1), (15, O_aload 0 1), (16, O_getf nW 1 1), (19, O_icmp_ge 83), (22, O_aload 0 1), (23, O_getf nW 1 0), (26, O_iload 3 1), (27, O_ald nW 0), (28, O_aload 0 1), (29, O_getf nW 1 0), (32, O_iload 1 1), (33, O_ald nW 0), (34, O_icmp_lt 57), (37, O_aload 0 1), (38, O_getf nW 1 0), (41, O_iload 3 1), (42, O_ald nW 0), (43, O_aload 0 1), (44, O_getf nW 1 0), (47, O_iload 1 1), (48, O_ald nW 0), (49, O_icmp_ne 61), (52, O_iload 3 1), (53, O_iload 1 1), (54, O_icmp_ge 61), (57, O_int 1 1), (58, O_goto 62), (61, O_int 0 1), (62, O_istore 4 2), (64, O_iload 2 1), (65, O_iload 4 2), (67, O_if_eq 74), (70, O_int 1 1), (71, O_goto 75), (74, O_int 0 1), (75, O_iadd), (76, O_istore 2 1), (77, O_iinc 3 1), (80, O_goto 14), (83, O_iload 2 1), (84, O_aload 0 1), (85, O_getf nW 1 1), (88, O_int 1 1), (89, O_isub), (90, O_int 2 1), (91, O_idiv), (92, O_icmp_ne 102), (95, O_aload 0 1), (96, O_getf nW 1 0), (99, O_iload 1 1), (100, O_ald nW 0), (101, O_iret), (102, O_iinc 1 1), (105, O_goto 2), (108, O_int 0 1), (109, O_iret)]
abbrev cut_X1_middle : List Nat := [2, 14]
set_option maxRecDepth 100000 in
theorem okc_X1_middle {E : En} (F : Fx E RX1 cX1_middle 5 0) (G : Fr E (some .int)) : CodOk E nW cod_X1_middle := by
  unfold CodOk cod_X1_middle
  refine List.forall_mem_cons.mpr ⟨ok_iconst F dX1_middle_0 (by decide) (by decide), ?_⟩
  refine List.forall_mem_cons.mpr ⟨ok_istore_n F dX1_middle_1 rfl (by decide) (by decide), ?_⟩
  refine List.forall_mem_cons.mpr ⟨ok_iload_n F dX1_middle_2 rfl (by decide), ?_⟩
  refine List.forall_mem_cons.mpr ⟨ok_aload_n F dX1_middle_3 rfl (by decide), ?_⟩
  refine List.forall_mem_cons.mpr ⟨ok_getf F flX1_19 dX1_middle_4 (by decide), ?_⟩
  refine List.forall_mem_cons.mpr ⟨ok_icmp_ge F dX1_middle_7 (by decide) (by decide) (by decide), ?_⟩
  refine List.forall_mem_cons.mpr ⟨ok_iconst F dX1_middle_10 (by decide) (by decide), ?_⟩
  refine List.forall_mem_cons.mpr ⟨ok_istore_n F dX1_middle_11 rfl (by decide) (by decide), ?_⟩
  refine List.forall_mem_cons.mpr ⟨ok_iconst F dX1_middle_12 (by decide) (by decide), ?_⟩
  refine List.forall_mem_cons.mpr ⟨ok_istore_n F dX1_middle_13 rfl (by decide) (by decide), ?_⟩
  refine List.forall_mem_cons.mpr ⟨ok_iload_n F dX1_middle_14 rfl (by decide), ?_⟩
  refine List.forall_mem_cons.mpr ⟨ok_aload_n F dX1_middle_15 rfl (by decide), ?_⟩
  refine List.forall_mem_cons.mpr ⟨ok_getf F flX1_19 dX1_middle_16 (by decide), ?_⟩
  refine List.forall_mem_cons.mpr ⟨ok_icmp_ge F dX1_middle_19 (by decide) (by decide) (by decide), ?_⟩
  refine List.forall_mem_cons.mpr ⟨ok_aload_n F dX1_middle_22 rfl (by decide), ?_⟩
  refine List.forall_mem_cons.mpr ⟨ok_getf F flX1_9 dX1_middle_23 (by decide), ?_⟩
  refine List.forall_mem_cons.mpr ⟨ok_iload_n F dX1_middle_26 rfl (by decide), ?_⟩
  refine List.forall_mem_cons.mpr ⟨ok_iald F dX1_middle_27 (by decide), ?_⟩
  refine List.forall_mem_cons.mpr ⟨ok_aload_n F dX1_middle_28 rfl (by decide), ?_⟩
  refine List.forall_mem_cons.mpr ⟨ok_getf F flX1_9 dX1_middle_29 (by decide), ?_⟩
  refine List.forall_mem_cons.mpr ⟨ok_iload_n F dX1_middle_32 rfl (by decide), ?_⟩
  refine List.forall_mem_cons.mpr ⟨ok_iald F dX1_middle_33 (by decide), ?_⟩
  refine List.forall_mem_cons.mpr ⟨ok_icmp_lt F dX1_middle_34 (by decide) (by decide) (by decide), ?_⟩
  refine List.forall_mem_cons.mpr ⟨ok_aload_n F dX1_middle_37 rfl (by decide), ?_⟩
  refine List.forall_mem_cons.mpr ⟨ok_getf F flX1_9 dX1_middle_38 (by decide), ?_⟩
  refine List.forall_mem_cons.mpr ⟨ok_iload_n F dX1_middle_41 rfl (by decide), ?_⟩
  refine List.forall_mem_cons.mpr ⟨ok_iald F dX1_middle_42 (by decide), ?_⟩
  refine List.forall_mem_cons.mpr ⟨ok_aload_n F dX1_middle_43 rfl (by decide), ?_⟩
  refine List.forall_mem_cons.mpr ⟨ok_getf F flX1_9 dX1_middle_44 (by decide), ?_⟩
  refine List.forall_mem_cons.mpr ⟨ok_iload_n F dX1_middle_47 rfl (by decide), ?_⟩
  refine List.forall_mem_cons.mpr ⟨ok_iald F dX1_middle_48 (by decide), ?_⟩
  refine List.forall_mem_cons.mpr ⟨ok_icmp_ne F dX1_middle_49 (by decide) (by decide) (by decide), ?_⟩
  refine List.forall_mem_cons.mpr ⟨ok_iload_n F dX1_middle_52 rfl (by decide), ?_⟩
  refine List.forall_mem_cons.mpr ⟨ok_iload_n F dX1_middle_53 rfl (by decide), ?_⟩
  refine List.forall_mem_cons.mpr ⟨ok_icmp_ge F dX1_middle_54 (by decide) (by decide) (by decide), ?_⟩
  refine List.forall_mem_cons.mpr ⟨ok_iconst F dX1_middle_57 (by decide) (by decide), ?_⟩
  refine List.forall_mem_cons.mpr ⟨ok_goto F dX1_middle_58 (by decide) (by decide) (by decide), ?_⟩
  refine List.forall_mem_cons.mpr ⟨ok_iconst F dX1_middle_61 (by decide) (by decide), ?_⟩
  refine List.forall_mem_cons.mpr ⟨ok_istore F dX1_middle_62 (by decide) (by decide), ?_⟩
  refine List.forall_mem_cons.mpr ⟨ok_iload_n F dX1_middle_64 rfl (by decide), ?_⟩
  refine List.forall_mem_cons.mpr ⟨ok_iload F dX1_middle_65 (by decide), ?_⟩
  refine List.forall_mem_cons.mpr ⟨ok_if_eq F dX1_middle_67 (by decide) (by decide) (by decide), ?_⟩
  refine List.forall_mem_cons.mpr ⟨ok_iconst F dX1_middle_70 (by decide) (by decide), ?_⟩
  refine List.forall_mem_cons.mpr ⟨ok_goto F dX1_middle_71 (by decide) (by decide) (by decide), ?_⟩
  refine List.forall_mem_cons.mpr ⟨ok_iconst F dX1_middle_74 (by decide) (by decide), ?_⟩
  refine List.forall_mem_cons.mpr ⟨ok_iadd F dX1_middle_75 (by decide), ?_⟩
  refine List.forall_mem_cons.mpr ⟨ok_istore_n F dX1_middle_76 rfl (by decide) (by decide), ?_⟩
  refine List.forall_mem_cons.mpr ⟨ok_iinc F dX1_middle_77 (by decide) (by decide) (by decide), ?_⟩
  refine List.forall_mem_cons.mpr ⟨ok_goto F dX1_middle_80 (by decide) (by decide) (by decide), ?_⟩
  refine List.forall_mem_cons.mpr ⟨ok_iload_n F dX1_middle_83 rfl (by decide), ?_⟩
  refine List.forall_mem_cons.mpr ⟨ok_aload_n F dX1_middle_84 rfl (by decide), ?_⟩
  refine List.forall_mem_cons.mpr ⟨ok_getf F flX1_19 dX1_middle_85 (by decide), ?_⟩
  refine List.forall_mem_cons.mpr ⟨ok_iconst F dX1_middle_88 (by decide) (by decide), ?_⟩
  refine List.forall_mem_cons.mpr ⟨ok_isub F dX1_middle_89 (by decide), ?_⟩
  refine List.forall_mem_cons.mpr ⟨ok_iconst F dX1_middle_90 (by decide) (by decide), ?_⟩
  refine List.forall_mem_cons.mpr ⟨ok_idiv F dX1_middle_91 (by decide), ?_⟩
  refine List.forall_mem_cons.mpr ⟨ok_icmp_ne F dX1_middle_92 (by decide) (by decide) (by decide), ?_⟩
  refine List.forall_mem_cons.mpr ⟨ok_aload_n F dX1_middle_95 rfl (by decide), ?_⟩
  refine List.forall_mem_cons.mpr ⟨ok_getf F flX1_9 dX1_middle_96 (by decide), ?_⟩
  refine List.forall_mem_cons.mpr ⟨ok_iload_n F dX1_middle_99 rfl (by decide), ?_⟩
  refine List.forall_mem_cons.mpr ⟨ok_iald F dX1_middle_100 (by decide), ?_⟩
  refine List.forall_mem_cons.mpr ⟨ok_iret F G dX1_middle_101 (by decide), ?_⟩
  refine List.forall_mem_cons.mpr ⟨ok_iinc F dX1_middle_102 (by decide) (by decide) (by decide), ?_⟩
  refine List.forall_mem_cons.mpr ⟨ok_goto F dX1_middle_105 (by decide) (by decide) (by decide), ?_⟩
  refine List.forall_mem_cons.mpr ⟨ok_iconst F dX1_middle_108 (by decide) (by decide), ?_⟩
  refine List.forall_mem_cons.mpr ⟨ok_iret F G dX1_middle_109 (by decide), ?_⟩
  exact fun _ h => absurd h List.not_mem_nil
set_option maxRecDepth 100000 in
theorem w_X1_middle : (∀ (K : Kt NT) (n : Nat) (L : xL) (st : List Value) (S : NT), nx cod_X1_middle cut_X1_middle K (n + 1) 0 L st S = (O_int 0 1) (nx cod_X1_middle cut_X1_middle K n) 0 L st S) ∧
  (∀ (K : Kt NT) (n : Nat) (L : xL) (st : List Value) (S : NT), nx cod_X1_middle cut_X1_middle K (n + 1) 1 L st S = (O_istore 1 1) (nx cod_X1_middle cut_X1_middle K n) 1 L st S) ∧
  (∀ (K : Kt NT) (n : Nat) (L : xL) (st : List Value) (S : NT), nx cod_X1_middle cut_X1_middle K (n + 1) 2 L st S = K 2 L st S) ∧
  (∀ (K : Kt NT) (n : Nat) (L : xL) (st : List Value) (S : NT), nx1 cod_X1_middle cut_X1_middle K n 2 L st S = (O_iload 1 1) (nx cod_X1_middle cut_X1_middle K n) 2 L st S) ∧
  (∀ (K : Kt NT) (n : Nat) (L : xL) (st : List Value) (S : NT), nx cod_X1_middle cut_X1_middle K (n + 1) 3 L st S = (O_aload 0 1) (nx cod_X1_middle cut_X1_middle K n) 3 L st S) ∧
  (∀ (K : Kt NT) (n : Nat) (L : xL) (st : List Value) (S : NT), nx cod_X1_middle cut_X1_middle K (n + 1) 4 L st S = (O_getf nW 1 1) (nx cod_X1_middle cut_X1_middle K n) 4 L st S) ∧
  (∀ (K : Kt NT) (n : Nat) (L : xL) (st : List Value) (S : NT), nx cod_X1_middle cut_X1_middle K (n + 1) 7 L st S = (O_icmp_ge 108) (nx cod_X1_middle cut_X1_middle K n) 7 L st S) ∧
  (∀ (K : Kt NT) (n : Nat) (L : xL) (st : List Value) (S : NT), nx cod_X1_middle cut_X1_middle K (n + 1) 10 L st S = (O_int 0 1) (nx cod_X1_middle cut_X1_middle K n) 10 L st S) ∧
  (∀ (K : Kt NT) (n : Nat) (L : xL) (st : List Value) (S : NT), nx cod_X1_middle cut_X1_middle K (n + 1) 11 L st S = (O_istore 2 1) (nx cod_X1_middle cut_X1_middle K n) 11 L st S) ∧
  (∀ (K : Kt NT) (n : Nat) (L : xL) (st : List Value) (S : NT), nx cod_X1_middle cut_X1_middle K (n + 1) 12 L st S = (O_int 0 1) (nx cod_X1_middle cut_X1_middle K n) 12 L st S) ∧
  (∀ (K : Kt NT) (n : Nat) (L : xL) (st : List Value) (S : NT), nx cod_X1_middle cut_X1_middle K (n + 1) 13 L st S = (O_istore 3 1) (nx cod_X1_middle cut_X1_middle K n) 13 L st S) ∧
  (∀ (K : Kt NT) (n : Nat) (L : xL) (st : List Value) (S : NT), nx cod_X1_middle cut_X1_middle K (n + 1) 14 L st S = K 14 L st S) ∧
  (∀ (K : Kt NT) (n : Nat) (L : xL) (st : List Value) (S : NT), nx1 cod_X1_middle cut_X1_middle K n 14 L st S = (O_iload 3 1) (nx cod_X1_middle cut_X1_middle K n) 14 L st S) ∧
  (∀ (K : Kt NT) (n : Nat) (L : xL) (st : List Value) (S : NT), nx cod_X1_middle cut_X1_middle K (n + 1) 15 L st S = (O_aload 0 1) (nx cod_X1_middle cut_X1_middle K n) 15 L st S) ∧
  (∀ (K : Kt NT) (n : Nat) (L : xL) (st : List Value) (S : NT), nx cod_X1_middle cut_X1_middle K (n + 1) 16 L st S = (O_getf nW 1 1) (nx cod_X1_middle cut_X1_middle K n) 16 L st S) ∧
  (∀ (K : Kt NT) (n : Nat) (L : xL) (st : List Value) (S : NT), nx cod_X1_middle cut_X1_middle K (n + 1) 19 L st S = (O_icmp_ge 83) (nx cod_X1_middle cut_X1_middle K n) 19 L st S) ∧
  (∀ (K : Kt NT) (n : Nat) (L : xL) (st : List Value) (S : NT), nx cod_X1_middle cut_X1_middle K (n + 1) 22 L st S = (O_aload 0 1) (nx cod_X1_middle cut_X1_middle K n) 22 L st S) ∧
  (∀ (K : Kt NT) (n : Nat) (L : xL) (st : List Value) (S : NT), nx cod_X1_middle cut_X1_middle K (n + 1) 23 L st S = (O_getf nW 1 0) (nx cod_X1_middle cut_X1_middle K n) 23 L st S) ∧
  (∀ (K : Kt NT) (n : Nat) (L : xL) (st : List Value) (S : NT), nx cod_X1_middle cut_X1_middle K (n + 1) 26 L st S = (O_iload 3 1) (nx cod_X1_middle cut_X1_middle K n) 26 L st S) ∧
  (∀ (K : Kt NT) (n : Nat) (L : xL) (st : List Value) (S : NT), nx cod_X1_middle cut_X1_middle K (n + 1) 27 L st S = (O_ald nW 0) (nx cod_X1_middle cut_X1_middle K n) 27 L st S) ∧
  (∀ (K : Kt NT) (n : Nat) (L : xL) (st : List Value) (S : NT), nx cod_X1_middle cut_X1_middle K (n + 1) 28 L st S = (O_aload 0 1) (nx cod_X1_middle cut_X1_middle K n) 28 L st S) ∧
  (∀ (K : Kt NT) (n : Nat) (L : xL) (st : List Value) (S : NT), nx cod_X1_middle cut_X1_middle K (n + 1) 29 L st S = (O_getf nW 1 0) (nx cod_X1_middle cut_X1_middle K n) 29 L st S) ∧
  (∀ (K : Kt NT) (n : Nat) (L : xL) (st : List Value) (S : NT), nx cod_X1_middle cut_X1_middle K (n + 1) 32 L st S = (O_iload 1 1) (nx cod_X1_middle cut_X1_middle K n) 32 L st S) ∧
  (∀ (K : Kt NT) (n : Nat) (L : xL) (st : List Value) (S : NT), nx cod_X1_middle cut_X1_middle K (n + 1) 33 L st S = (O_ald nW 0) (nx cod_X1_middle cut_X1_middle K n) 33 L st S) ∧
  (∀ (K : Kt NT) (n : Nat) (L : xL) (st : List Value) (S : NT), nx cod_X1_middle cut_X1_middle K (n + 1) 34 L st S = (O_icmp_lt 57) (nx cod_X1_middle cut_X1_middle K n) 34 L st S) ∧
  (∀ (K : Kt NT) (n : Nat) (L : xL) (st : List Value) (S : NT), nx cod_X1_middle cut_X1_middle K (n + 1) 37 L st S = (O_aload 0 1) (nx cod_X1_middle cut_X1_middle K n) 37 L st S) ∧
  (∀ (K : Kt NT) (n : Nat) (L : xL) (st : List Value) (S : NT), nx cod_X1_middle cut_X1_middle K (n + 1) 38 L st S = (O_getf nW 1 0) (nx cod_X1_middle cut_X1_middle K n) 38 L st S) ∧
  (∀ (K : Kt NT) (n : Nat) (L : xL) (st : List Value) (S : NT), nx cod_X1_middle cut_X1_middle K (n + 1) 41 L st S = (O_iload 3 1) (nx cod_X1_middle cut_X1_middle K n) 41 L st S) ∧
  (∀ (K : Kt NT) (n : Nat) (L : xL) (st : List Value) (S : NT), nx cod_X1_middle cut_X1_middle K (n + 1) 42 L st S = (O_ald nW 0) (nx cod_X1_middle cut_X1_middle K n) 42 L st S) ∧
  (∀ (K : Kt NT) (n : Nat) (L : xL) (st : List Value) (S : NT), nx cod_X1_middle cut_X1_middle K (n + 1) 43 L st S = (O_aload 0 1) (nx cod_X1_middle cut_X1_middle K n) 43 L st S) ∧
  (∀ (K : Kt NT) (n : Nat) (L : xL) (st : List Value) (S : NT), nx cod_X1_middle cut_X1_middle K (n + 1) 44 L st S = (O_getf nW 1 0) (nx cod_X1_middle cut_X1_middle K n) 44 L st S) ∧
  (∀ (K : Kt NT) (n : Nat) (L : xL) (st : List Value) (S : NT), nx cod_X1_middle cut_X1_middle K (n + 1) 47 L st S = (O_iload 1 1) (nx cod_X1_middle cut_X1_middle K n) 47 L st S) ∧
  (∀ (K : Kt NT) (n : Nat) (L : xL) (st : List Value) (S : NT), nx cod_X1_middle cut_X1_middle K (n + 1) 48 L st S = (O_ald nW 0) (nx cod_X1_middle cut_X1_middle K n) 48 L st S) ∧
  (∀ (K : Kt NT) (n : Nat) (L : xL) (st : List Value) (S : NT), nx cod_X1_middle cut_X1_middle K (n + 1) 49 L st S = (O_icmp_ne 61) (nx cod_X1_middle cut_X1_middle K n) 49 L st S) ∧
  (∀ (K : Kt NT) (n : Nat) (L : xL) (st : List Value) (S : NT), nx cod_X1_middle cut_X1_middle K (n + 1) 52 L st S = (O_iload 3 1) (nx cod_X1_middle cut_X1_middle K n) 52 L st S) ∧
  (∀ (K : Kt NT) (n : Nat) (L : xL) (st : List Value) (S : NT), nx cod_X1_middle cut_X1_middle K (n + 1) 53 L st S = (O_iload 1 1) (nx cod_X1_middle cut_X1_middle K n) 53 L st S) ∧
  (∀ (K : Kt NT) (n : Nat) (L : xL) (st : List Value) (S : NT), nx cod_X1_middle cut_X1_middle K (n + 1) 54 L st S = (O_icmp_ge 61) (nx cod_X1_middle cut_X1_middle K n) 54 L st S) ∧
  (∀ (K : Kt NT) (n : Nat) (L : xL) (st : List Value) (S : NT), nx cod_X1_middle cut_X1_middle K (n + 1) 57 L st S = (O_int 1 1) (nx cod_X1_middle cut_X1_middle K n) 57 L st S) ∧
  (∀ (K : Kt NT) (n : Nat) (L : xL) (st : List Value) (S : NT), nx cod_X1_middle cut_X1_middle K (n + 1) 58 L st S = (O_goto 62) (nx cod_X1_middle cut_X1_middle K n) 58 L st S) ∧
  (∀ (K : Kt NT) (n : Nat) (L : xL) (st : List Value) (S : NT), nx cod_X1_middle cut_X1_middle K (n + 1) 61 L st S = (O_int 0 1) (nx cod_X1_middle cut_X1_middle K n) 61 L st S) ∧
  (∀ (K : Kt NT) (n : Nat) (L : xL) (st : List Value) (S : NT), nx cod_X1_middle cut_X1_middle K (n + 1) 62 L st S = (O_istore 4 2) (nx cod_X1_middle cut_X1_middle K n) 62 L st S) ∧
  (∀ (K : Kt NT) (n : Nat) (L : xL) (st : List Value) (S : NT), nx cod_X1_middle cut_X1_middle K (n + 1) 64 L st S = (O_iload 2 1) (nx cod_X1_middle cut_X1_middle K n) 64 L st S) ∧
  (∀ (K : Kt NT) (n : Nat) (L : xL) (st : List Value) (S : NT), nx cod_X1_middle cut_X1_middle K (n + 1) 65 L st S = (O_iload 4 2) (nx cod_X1_middle cut_X1_middle K n) 65 L st S) ∧
  (∀ (K : Kt NT) (n : Nat) (L : xL) (st : List Value) (S : NT), nx cod_X1_middle cut_X1_middle K (n + 1) 67 L st S = (O_if_eq 74) (nx cod_X1_middle cut_X1_middle K n) 67 L st S) ∧
  (∀ (K : Kt NT) (n : Nat) (L : xL) (st : List Value) (S : NT), nx cod_X1_middle cut_X1_middle K (n + 1) 70 L st S = (O_int 1 1) (nx cod_X1_middle cut_X1_middle K n) 70 L st S) ∧
  (∀ (K : Kt NT) (n : Nat) (L : xL) (st : List Value) (S : NT), nx cod_X1_middle cut_X1_middle K (n + 1) 71 L st S = (O_goto 75) (nx cod_X1_middle cut_X1_middle K n) 71 L st S) ∧
  (∀ (K : Kt NT) (n : Nat) (L : xL) (st : List Value) (S : NT), nx cod_X1_middle cut_X1_middle K (n + 1) 74 L st S = (O_int 0 1) (nx cod_X1_middle cut_X1_middle K n) 74 L st S) ∧
  (∀ (K : Kt NT) (n : Nat) (L : xL) (st : List Value) (S : NT), nx cod_X1_middle cut_X1_middle K (n + 1) 75 L st S = (O_iadd) (nx cod_X1_middle cut_X1_middle K n) 75 L st S) ∧
  (∀ (K : Kt NT) (n : Nat) (L : xL) (st : List Value) (S : NT), nx cod_X1_middle cut_X1_middle K (n + 1) 76 L st S = (O_istore 2 1) (nx cod_X1_middle cut_X1_middle K n) 76 L st S) ∧
  (∀ (K : Kt NT) (n : Nat) (L : xL) (st : List Value) (S : NT), nx cod_X1_middle cut_X1_middle K (n + 1) 77 L st S = (O_iinc 3 1) (nx cod_X1_middle cut_X1_middle K n) 77 L st S) ∧
  (∀ (K : Kt NT) (n : Nat) (L : xL) (st : List Value) (S : NT), nx cod_X1_middle cut_X1_middle K (n + 1) 80 L st S = (O_goto 14) (nx cod_X1_middle cut_X1_middle K n) 80 L st S) ∧
  (∀ (K : Kt NT) (n : Nat) (L : xL) (st : List Value) (S : NT), nx cod_X1_middle cut_X1_middle K (n + 1) 83 L st S = (O_iload 2 1) (nx cod_X1_middle cut_X1_middle K n) 83 L st S) ∧
  (∀ (K : Kt NT) (n : Nat) (L : xL) (st : List Value) (S : NT), nx cod_X1_middle cut_X1_middle K (n + 1) 84 L st S = (O_aload 0 1) (nx cod_X1_middle cut_X1_middle K n) 84 L st S) ∧
  (∀ (K : Kt NT) (n : Nat) (L : xL) (st : List Value) (S : NT), nx cod_X1_middle cut_X1_middle K (n + 1) 85 L st S = (O_getf nW 1 1) (nx cod_X1_middle cut_X1_middle K n) 85 L st S) ∧
  (∀ (K : Kt NT) (n : Nat) (L : xL) (st : List Value) (S : NT), nx cod_X1_middle cut_X1_middle K (n + 1) 88 L st S = (O_int 1 1) (nx cod_X1_middle cut_X1_middle K n) 88 L st S) ∧
  (∀ (K : Kt NT) (n : Nat) (L : xL) (st : List Value) (S : NT), nx cod_X1_middle cut_X1_middle K (n + 1) 89 L st S = (O_isub) (nx cod_X1_middle cut_X1_middle K n) 89 L st S) ∧
  (∀ (K : Kt NT) (n : Nat) (L : xL) (st : List Value) (S : NT), nx cod_X1_middle cut_X1_middle K (n + 1) 90 L st S = (O_int 2 1) (nx cod_X1_middle cut_X1_middle K n) 90 L st S) ∧
  (∀ (K : Kt NT) (n : Nat) (L : xL) (st : List Value) (S : NT), nx cod_X1_middle cut_X1_middle K (n + 1) 91 L st S = (O_idiv) (nx cod_X1_middle cut_X1_middle K n) 91 L st S) ∧
  (∀ (K : Kt NT) (n : Nat) (L : xL) (st : List Value) (S : NT), nx cod_X1_middle cut_X1_middle K (n + 1) 92 L st S = (O_icmp_ne 102) (nx cod_X1_middle cut_X1_middle K n) 92 L st S) ∧
  (∀ (K : Kt NT) (n : Nat) (L : xL) (st : List Value) (S : NT), nx cod_X1_middle cut_X1_middle K (n + 1) 95 L st S = (O_aload 0 1) (nx cod_X1_middle cut_X1_middle K n) 95 L st S) ∧
  (∀ (K : Kt NT) (n : Nat) (L : xL) (st : List Value) (S : NT), nx cod_X1_middle cut_X1_middle K (n + 1) 96 L st S = (O_getf nW 1 0) (nx cod_X1_middle cut_X1_middle K n) 96 L st S) ∧
  (∀ (K : Kt NT) (n : Nat) (L : xL) (st : List Value) (S : NT), nx cod_X1_middle cut_X1_middle K (n + 1) 99 L st S = (O_iload 1 1) (nx cod_X1_middle cut_X1_middle K n) 99 L st S) ∧
  (∀ (K : Kt NT) (n : Nat) (L : xL) (st : List Value) (S : NT), nx cod_X1_middle cut_X1_middle K (n + 1) 100 L st S = (O_ald nW 0) (nx cod_X1_middle cut_X1_middle K n) 100 L st S) ∧
  (∀ (K : Kt NT) (n : Nat) (L : xL) (st : List Value) (S : NT), nx cod_X1_middle cut_X1_middle K (n + 1) 101 L st S = (O_iret) (nx cod_X1_middle cut_X1_middle K n) 101 L st S) ∧
  (∀ (K : Kt NT) (n : Nat) (L : xL) (st : List Value) (S : NT), nx cod_X1_middle cut_X1_middle K (n + 1) 102 L st S = (O_iinc 1 1) (nx cod_X1_middle cut_X1_middle K n) 102 L st S) ∧
  (∀ (K : Kt NT) (n : Nat) (L : xL) (st : List Value) (S : NT), nx cod_X1_middle cut_X1_middle K (n + 1) 105 L st S = (O_goto 2) (nx cod_X1_middle cut_X1_middle K n) 105 L st S) ∧
  (∀ (K : Kt NT) (n : Nat) (L : xL) (st : List Value) (S : NT), nx cod_X1_middle cut_X1_middle K (n + 1) 108 L st S = (O_int 0 1) (nx cod_X1_middle cut_X1_middle K n) 108 L st S) ∧
  (∀ (K : Kt NT) (n : Nat) (L : xL) (st : List Value) (S : NT), nx cod_X1_middle cut_X1_middle K (n + 1) 109 L st S = (O_iret) (nx cod_X1_middle cut_X1_middle K n) 109 L st S) ∧
  (∀ (K : Kt NT) (n : Nat) (L : xL) (st : List Value) (S : NT), nx cod_X1_middle cut_X1_middle K (n + 1) 100000 L st S = K 100000 L st S) := by
  repeat' apply And.intro
  all_goals (intros; rfl)
set_option maxRecDepth 100000 in
theorem mk_X1_middle {P P' : NT} {r : Option Value}  (body : ∀ E : En, CodOk E nW cod_X1_middle → Gd E nW 100000 [] r.toList P' → Gd E nW 0 [some (.ref 0), none, none, none, none] [] P) : Con yX1_middle cX1_middle 5 (some .int) 0 nW [.ref 0] P r P' :=
  Con.of (by decide) rfl rfl (Nat.le_of_ble_eq_true rfl) (fun E F G hr => body E (okc_X1_middle F G) hr)
theorem con_X1_middle (S : NT)  (hp : S.ok) : Con yX1_middle cX1_middle 5 (some .int) 0 nW [.ref 0] S (some (.int (S.mid))) (S) := by
  refine mk_X1_middle (fun E C hr => ?_)
  (refine nx_ok C (cuts := cut_X1_middle) 1000 _ _ _ _ ?_; simp only [w_X1_middle, ops_eq, xst_eq, call_eq, oK_eq, Option.toList_some, Option.toList_none, List.cons_append, List.nil_append, List.length_cons, List.length_nil, true_and, and_true, Nat.reduceAdd, nW_F, nW_A, nW_S, nW_P, NT_gs])
  have key : ∀ q2 q3 q4 : Option Value, Gd E nW 2 [some (.ref 0), some (.int (nI 0)), q2, q3, q4] [] S := by
    refine fstN_up (c := fun i => decide (S.ahead i = (S.size - 1) / 2)) (n := S.n) (fun i => ∀ q2 q3 q4 : Option Value, Gd E nW 2 [some (.ref 0), some (.int (nI i)), q2, q3, q4] [] S) (fun p => Gd E nW 100000 [] [.int (S.noted p)] S) (fun i hi h1 h2 q2 q3 q4 => ?_) (fun p h => ?_) (fun h q2 q3 q4 => ?_)
    · have hx := ixs hp hi
      (refine nx1_ok C cut_X1_middle 1000 ?_; simp only [w_X1_middle, ops_eq, xst_eq, call_eq, oK_eq, Option.toList_some, Option.toList_none, List.cons_append, List.nil_append, List.length_cons, List.length_nil, true_and, and_true, Nat.reduceAdd, nW_F, nW_A, nW_S, nW_P, NT_gs, hx])
      have inner : ∀ q4 : Option Value, Gd E nW 14 [some (.ref 0), some (.int (nI i)), some (.int 0), some (.int (nI 0)), q4] [] S := by
        refine it_up (f := fun j r => r + bI (decide (S.noted j < S.noted i ∨ S.noted j = S.noted i ∧ j < i))) (n := S.n) (fun _ _ => True) (fun j r => ∀ q4 : Option Value, Gd E nW 14 [some (.ref 0), some (.int (nI i)), some (.int r), some (.int (nI j)), q4] [] S) trivial (fun _ _ _ _ => trivial) (fun j r hj _ hn q4 => ?_) (fun q4 => ?_)
        · have hy := ixs hp hj
          have hlt : (nI j < nI i) = (j < i) := propext (nI_ltI (by have := hp.2; omega) (by have := hp.2; omega))
          (refine nx1_ok C cut_X1_middle 1000 ?_; simp only [w_X1_middle, ops_eq, xst_eq, call_eq, oK_eq, Option.toList_some, Option.toList_none, List.cons_append, List.nil_append, List.length_cons, List.length_nil, true_and, and_true, Nat.reduceAdd, nW_F, nW_A, nW_S, nW_P, NT_gs, hx, hy, hlt])
          ((repeat' (with_reducible first | apply And.intro | intro _)) <;> simp_all [bI, NT_gs])
        · have hy := ixe hp
          (refine nx1_ok C cut_X1_middle 1000 ?_; simp only [w_X1_middle, ops_eq, xst_eq, call_eq, oK_eq, Option.toList_some, Option.toList_none, List.cons_append, List.nil_append, List.length_cons, List.length_nil, true_and, and_true, Nat.reduceAdd, nW_F, nW_A, nW_S, nW_P, NT_gs, hx, hy, show ¬ (2 : Int32) = 0 from by decide])
          ((repeat' (with_reducible first | apply And.intro | intro _)) <;> simp_all [NT.ahead, NT_gs])
      ((repeat' (with_reducible first | apply And.intro | intro _)) <;> simp_all [nI_0, NT_gs])
    · simpa [NT.mid, h] using hr
    · have hx := ixe hp
      (refine nx1_ok C cut_X1_middle 1000 ?_; simp only [w_X1_middle, ops_eq, xst_eq, call_eq, oK_eq, Option.toList_some, Option.toList_none, List.cons_append, List.nil_append, List.length_cons, List.length_nil, true_and, and_true, Nat.reduceAdd, nW_F, nW_A, nW_S, nW_P, NT_gs, hx])
      simp only [NT.mid, h] at hr
      ((repeat' (with_reducible first | apply And.intro | intro _)) <;> simp_all [NT_gs])
  exact key none none none
def sp_X1_middle : Sp NT := fun av S K => match av with
  | [.ref 0] => (S.ok) ∧ K (some (.int (S.mid))) (S)
  | _ => False
theorem se_X1_middle  (S : NT) (K : Option Value → NT → Prop) : sp_X1_middle [.ref 0] S K = ((S.ok) ∧ K (some (.int (S.mid))) (S)) := rfl
theorem spok_X1_middle : SpOk yX1_middle cX1_middle 5 (some .int) 0 nW sp_X1_middle := by
  intro av S K h
  unfold sp_X1_middle at h
  split at h
  · exact ⟨some (.int (S.mid)), S, trivial, con_X1_middle S  h.1, h.2⟩
  · exact h.elim
def NT.tells (S : NT) (lim : Int32) : Bool := decide (¬ S.size < 3 ∧ S.mid + lim < S.flow)
theorem flX1_23 : fldOk RX1 23 1 2 = true := by decide +kernel
def cod_X1_tellLeak : List (Nat × Op NT) := [(0, O_aload 0 1), (1, O_getf nW 1 1), (4, O_int 3 1), (5, O_icmp_lt 25), (8, O_aload 0 1), (9, O_getf nW 1 2), (12, O_aload 0 1), (13, O_callV 0 0 (fun S => S) (fun _ S' => S') sp_X1_middle), (16, O_iload 1 1), (17, O_iadd), (18, O_icmp_le 25), (21, O_int 1 1), (22, O_goto 26), (25, O_int 0 1), (26, O_zret)]
abbrev cut_X1_tellLeak : List Nat := []
set_option maxRecDepth 100000 in
theorem okc_X1_tellLeak {E : En} (F : Fx E RX1 cX1_tellLeak 2 1) (G : Fr E (some .boolean)) : CodOk E nW cod_X1_tellLeak := by
  unfold CodOk cod_X1_tellLeak
  refine List.forall_mem_cons.mpr ⟨ok_aload_n F dX1_tellLeak_0 rfl (by decide), ?_⟩
  refine List.forall_mem_cons.mpr ⟨ok_getf F flX1_19 dX1_tellLeak_1 (by decide), ?_⟩
  refine List.forall_mem_cons.mpr ⟨ok_iconst F dX1_tellLeak_4 (by decide) (by decide), ?_⟩
  refine List.forall_mem_cons.mpr ⟨ok_icmp_lt F dX1_tellLeak_5 (by decide) (by decide) (by decide), ?_⟩
  refine List.forall_mem_cons.mpr ⟨ok_aload_n F dX1_tellLeak_8 rfl (by decide), ?_⟩
  refine List.forall_mem_cons.mpr ⟨ok_getf F flX1_23 dX1_tellLeak_9 (by decide), ?_⟩
  refine List.forall_mem_cons.mpr ⟨ok_aload_n F dX1_tellLeak_12 rfl (by decide), ?_⟩
  refine List.forall_mem_cons.mpr ⟨ok_callV F spok_X1_middle (ln_id nW) rcv_nW (by decide +kernel) (by decide) dX1_tellLeak_13 (by decide), ?_⟩
  refine List.forall_mem_cons.mpr ⟨ok_iload_n F dX1_tellLeak_16 rfl (by decide), ?_⟩
  refine List.forall_mem_cons.mpr ⟨ok_iadd F dX1_tellLeak_17 (by decide), ?_⟩
  refine List.forall_mem_cons.mpr ⟨ok_icmp_le F dX1_tellLeak_18 (by decide) (by decide) (by decide), ?_⟩
  refine List.forall_mem_cons.mpr ⟨ok_iconst F dX1_tellLeak_21 (by decide) (by decide), ?_⟩
  refine List.forall_mem_cons.mpr ⟨ok_goto F dX1_tellLeak_22 (by decide) (by decide) (by decide), ?_⟩
  refine List.forall_mem_cons.mpr ⟨ok_iconst F dX1_tellLeak_25 (by decide) (by decide), ?_⟩
  refine List.forall_mem_cons.mpr ⟨ok_zret F G dX1_tellLeak_26 (by decide), ?_⟩
  exact fun _ h => absurd h List.not_mem_nil
set_option maxRecDepth 100000 in
theorem w_X1_tellLeak : (∀ (K : Kt NT) (n : Nat) (L : xL) (st : List Value) (S : NT), nx cod_X1_tellLeak cut_X1_tellLeak K (n + 1) 0 L st S = (O_aload 0 1) (nx cod_X1_tellLeak cut_X1_tellLeak K n) 0 L st S) ∧
  (∀ (K : Kt NT) (n : Nat) (L : xL) (st : List Value) (S : NT), nx cod_X1_tellLeak cut_X1_tellLeak K (n + 1) 1 L st S = (O_getf nW 1 1) (nx cod_X1_tellLeak cut_X1_tellLeak K n) 1 L st S) ∧
  (∀ (K : Kt NT) (n : Nat) (L : xL) (st : List Value) (S : NT), nx cod_X1_tellLeak cut_X1_tellLeak K (n + 1) 4 L st S = (O_int 3 1) (nx cod_X1_tellLeak cut_X1_tellLeak K n) 4 L st S) ∧
  (∀ (K : Kt NT) (n : Nat) (L : xL) (st : List Value) (S : NT), nx cod_X1_tellLeak cut_X1_tellLeak K (n + 1) 5 L st S = (O_icmp_lt 25) (nx cod_X1_tellLeak cut_X1_tellLeak K n) 5 L st S) ∧
  (∀ (K : Kt NT) (n : Nat) (L : xL) (st : List Value) (S : NT), nx cod_X1_tellLeak cut_X1_tellLeak K (n + 1) 8 L st S = (O_aload 0 1) (nx cod_X1_tellLeak cut_X1_tellLeak K n) 8 L st S) ∧
  (∀ (K : Kt NT) (n : Nat) (L : xL) (st : List Value) (S : NT), nx cod_X1_tellLeak cut_X1_tellLeak K (n + 1) 9 L st S = (O_getf nW 1 2) (nx cod_X1_tellLeak cut_X1_tellLeak K n) 9 L st S) ∧
  (∀ (K : Kt NT) (n : Nat) (L : xL) (st : List Value) (S : NT), nx cod_X1_tellLeak cut_X1_tellLeak K (n + 1) 12 L st S = (O_aload 0 1) (nx cod_X1_tellLeak cut_X1_tellLeak K n) 12 L st S) ∧
  (∀ (K : Kt NT) (n : Nat) (L : xL) (st : List Value) (S : NT), nx cod_X1_tellLeak cut_X1_tellLeak K (n + 1) 13 L st S = (O_callV 0 0 (fun S => S) (fun _ S' => S') sp_X1_middle) (nx cod_X1_tellLeak cut_X1_tellLeak K n) 13 L st S) ∧
  (∀ (K : Kt NT) (n : Nat) (L : xL) (st : List Value) (S : NT), nx cod_X1_tellLeak cut_X1_tellLeak K (n + 1) 16 L st S = (O_iload 1 1) (nx cod_X1_tellLeak cut_X1_tellLeak K n) 16 L st S) ∧
  (∀ (K : Kt NT) (n : Nat) (L : xL) (st : List Value) (S : NT), nx cod_X1_tellLeak cut_X1_tellLeak K (n + 1) 17 L st S = (O_iadd) (nx cod_X1_tellLeak cut_X1_tellLeak K n) 17 L st S) ∧
  (∀ (K : Kt NT) (n : Nat) (L : xL) (st : List Value) (S : NT), nx cod_X1_tellLeak cut_X1_tellLeak K (n + 1) 18 L st S = (O_icmp_le 25) (nx cod_X1_tellLeak cut_X1_tellLeak K n) 18 L st S) ∧
  (∀ (K : Kt NT) (n : Nat) (L : xL) (st : List Value) (S : NT), nx cod_X1_tellLeak cut_X1_tellLeak K (n + 1) 21 L st S = (O_int 1 1) (nx cod_X1_tellLeak cut_X1_tellLeak K n) 21 L st S) ∧
  (∀ (K : Kt NT) (n : Nat) (L : xL) (st : List Value) (S : NT), nx cod_X1_tellLeak cut_X1_tellLeak K (n + 1) 22 L st S = (O_goto 26) (nx cod_X1_tellLeak cut_X1_tellLeak K n) 22 L st S) ∧
  (∀ (K : Kt NT) (n : Nat) (L : xL) (st : List Value) (S : NT), nx cod_X1_tellLeak cut_X1_tellLeak K (n + 1) 25 L st S = (O_int 0 1) (nx cod_X1_tellLeak cut_X1_tellLeak K n) 25 L st S) ∧
  (∀ (K : Kt NT) (n : Nat) (L : xL) (st : List Value) (S : NT), nx cod_X1_tellLeak cut_X1_tellLeak K (n + 1) 26 L st S = (O_zret) (nx cod_X1_tellLeak cut_X1_tellLeak K n) 26 L st S) ∧
  (∀ (K : Kt NT) (n : Nat) (L : xL) (st : List Value) (S : NT), nx cod_X1_tellLeak cut_X1_tellLeak K (n + 1) 100000 L st S = K 100000 L st S) := by
  repeat' apply And.intro
  all_goals (intros; rfl)
set_option maxRecDepth 100000 in
theorem mk_X1_tellLeak {P P' : NT} {r : Option Value} {p0 : Int32} (body : ∀ E : En, CodOk E nW cod_X1_tellLeak → Gd E nW 100000 [] r.toList P' → Gd E nW 0 [some (.ref 0), some (.int p0)] [] P) : Con yX1_tellLeak cX1_tellLeak 2 (some .boolean) 1 nW [.ref 0, .int p0] P r P' :=
  Con.of (by decide) rfl rfl (Nat.le_of_ble_eq_true rfl) (fun E F G hr => body E (okc_X1_tellLeak F G) hr)
theorem con_X1_tellLeak (S : NT) (lim : Int32) (hp : S.ok) : Con yX1_tellLeak cX1_tellLeak 2 (some .boolean) 1 nW [.ref 0, .int lim] S (some (.int (bI (S.tells lim)))) (S) := by
  refine mk_X1_tellLeak (fun E C hr => ?_)
  (refine nx_ok C (cuts := cut_X1_tellLeak) 1000 _ _ _ _ ?_; simp only [w_X1_tellLeak, ops_eq, xst_eq, call_eq, oK_eq, Option.toList_some, Option.toList_none, List.cons_append, List.nil_append, List.length_cons, List.length_nil, true_and, and_true, Nat.reduceAdd, nW_F, nW_A, nW_S, nW_P, NT_gs, se_X1_middle, bI_eq])
  ((repeat' (with_reducible first | apply And.intro | intro _)) <;> simp_all [NT.tells, bI, NT_gs])
def sp_X1_tellLeak : Sp NT := fun av S K => match av with
  | [.ref 0, .int lim] => (S.ok) ∧ K (some (.int (bI (S.tells lim)))) (S)
  | _ => False
theorem se_X1_tellLeak (lim : Int32) (S : NT) (K : Option Value → NT → Prop) : sp_X1_tellLeak [.ref 0, .int lim] S K = ((S.ok) ∧ K (some (.int (bI (S.tells lim)))) (S)) := rfl
theorem spok_X1_tellLeak : SpOk yX1_tellLeak cX1_tellLeak 2 (some .boolean) 1 nW sp_X1_tellLeak := by
  intro av S K h
  unfold sp_X1_tellLeak at h
  split at h
  · rename_i lim; exact ⟨some (.int (bI (S.tells lim))), S, trivial, con_X1_tellLeak S lim h.1, h.2⟩
  · exact h.elim
def NT.shift (k : Nat) (T : NT) : NT := T.sNoted (upd T.noted (6 - k) (T.noted (5 - k)))
def NT.note (S : NT) : NT :=
  let T := it NT.shift S 6
  ((T.sNoted (upd T.noted 0 S.flow)).sSize (if S.size + 1 < 7 then S.size + 1 else 7)).sFlow 0
theorem n6 : ∀ k, k < 6 → vp_in (nI (6 - k)) 7 ∧ (nI (6 - k)).toNatClampNeg = 6 - k ∧ 0 < nI (6 - k) ∧ nI (6 - k) - 1 = nI (5 - k) ∧ nI (6 - k) + -1 = nI (6 - (k + 1)) ∧ vp_in (nI (5 - k)) 7 ∧ (nI (5 - k)).toNatClampNeg = 5 - k := by unfold vp_in; decide +kernel
def cod_X1_note : List (Nat × Op NT) := [(0, O_int 6 2), (2, O_istore 1 1), (3, O_iload 1 1), (4, O_if_le 27), (7, O_aload 0 1), (8, O_getf nW 1 0), (11, O_iload 1 1), (12, O_aload 0 1), (13, O_getf nW 1 0), (16, O_iload 1 1), (17, O_int 1 1), (18, O_isub), (19, O_ald nW 0), (20, O_ast nW 0 nW_sa), (21, O_iinc 1 (-1)), (24, O_goto 3), (27, O_aload 0 1), (28, O_getf nW 1 0), (31, O_int 0 1), (32, O_aload 0 1), (33, O_getf nW 1 2), (36, O_ast nW 0 nW_sa), (37, O_aload 0 1), (38, O_int 7 2), (40, O_aload 0 1), (41, O_getf nW 1 1), (44, O_int 1 1), (45, O_iadd), (46, O_min), (49, O_puti nW_p1_1), (52, O_aload 0 1), (53, O_int 0 1), (54, O_puti nW_p1_2), (57, O_vret)]
abbrev cut_X1_note : List Nat := [3]
set_option maxRecDepth 100000 in
theorem okc_X1_note {E : En} (F : Fx E RX1 cX1_note 2 1) (G : Fr E none) : CodOk E nW cod_X1_note := by
  unfold CodOk cod_X1_note
  refine List.forall_mem_cons.mpr ⟨ok_bipush F dX1_note_0 (by decide) (by decide), ?_⟩
  refine List.forall_mem_cons.mpr ⟨ok_istore_n F dX1_note_2 rfl (by decide) (by decide), ?_⟩
  refine List.forall_mem_cons.mpr ⟨ok_iload_n F dX1_note_3 rfl (by decide), ?_⟩
  refine List.forall_mem_cons.mpr ⟨ok_if_le F dX1_note_4 (by decide) (by decide) (by decide), ?_⟩
  refine List.forall_mem_cons.mpr ⟨ok_aload_n F dX1_note_7 rfl (by decide), ?_⟩
  refine List.forall_mem_cons.mpr ⟨ok_getf F flX1_9 dX1_note_8 (by decide), ?_⟩
  refine List.forall_mem_cons.mpr ⟨ok_iload_n F dX1_note_11 rfl (by decide), ?_⟩
  refine List.forall_mem_cons.mpr ⟨ok_aload_n F dX1_note_12 rfl (by decide), ?_⟩
  refine List.forall_mem_cons.mpr ⟨ok_getf F flX1_9 dX1_note_13 (by decide), ?_⟩
  refine List.forall_mem_cons.mpr ⟨ok_iload_n F dX1_note_16 rfl (by decide), ?_⟩
  refine List.forall_mem_cons.mpr ⟨ok_iconst F dX1_note_17 (by decide) (by decide), ?_⟩
  refine List.forall_mem_cons.mpr ⟨ok_isub F dX1_note_18 (by decide), ?_⟩
  refine List.forall_mem_cons.mpr ⟨ok_iald F dX1_note_19 (by decide), ?_⟩
  refine List.forall_mem_cons.mpr ⟨ok_iast F nW_sar dX1_note_20 (by decide), ?_⟩
  refine List.forall_mem_cons.mpr ⟨ok_iinc F dX1_note_21 (by decide) (by decide) (by decide), ?_⟩
  refine List.forall_mem_cons.mpr ⟨ok_goto F dX1_note_24 (by decide) (by decide) (by decide), ?_⟩
  refine List.forall_mem_cons.mpr ⟨ok_aload_n F dX1_note_27 rfl (by decide), ?_⟩
  refine List.forall_mem_cons.mpr ⟨ok_getf F flX1_9 dX1_note_28 (by decide), ?_⟩
  refine List.forall_mem_cons.mpr ⟨ok_iconst F dX1_note_31 (by decide) (by decide), ?_⟩
  refine List.forall_mem_cons.mpr ⟨ok_aload_n F dX1_note_32 rfl (by decide), ?_⟩
  refine List.forall_mem_cons.mpr ⟨ok_getf F flX1_23 dX1_note_33 (by decide), ?_⟩
  refine List.forall_mem_cons.mpr ⟨ok_iast F nW_sar dX1_note_36 (by decide), ?_⟩
  refine List.forall_mem_cons.mpr ⟨ok_aload_n F dX1_note_37 rfl (by decide), ?_⟩
  refine List.forall_mem_cons.mpr ⟨ok_bipush F dX1_note_38 (by decide) (by decide), ?_⟩
  refine List.forall_mem_cons.mpr ⟨ok_aload_n F dX1_note_40 rfl (by decide), ?_⟩
  refine List.forall_mem_cons.mpr ⟨ok_getf F flX1_19 dX1_note_41 (by decide), ?_⟩
  refine List.forall_mem_cons.mpr ⟨ok_iconst F dX1_note_44 (by decide) (by decide), ?_⟩
  refine List.forall_mem_cons.mpr ⟨ok_iadd F dX1_note_45 (by decide), ?_⟩
  refine List.forall_mem_cons.mpr ⟨ok_min F (by decide +kernel) (by decide) dX1_note_46 (by decide), ?_⟩
  refine List.forall_mem_cons.mpr ⟨ok_puti F nW_p1_1_ok (fun _ _ _ h => by cases h; rfl) rfl flX1_19 dX1_note_49 (by decide), ?_⟩
  refine List.forall_mem_cons.mpr ⟨ok_aload_n F dX1_note_52 rfl (by decide), ?_⟩
  refine List.forall_mem_cons.mpr ⟨ok_iconst F dX1_note_53 (by decide) (by decide), ?_⟩
  refine List.forall_mem_cons.mpr ⟨ok_puti F nW_p1_2_ok (fun _ _ _ h => by cases h; rfl) rfl flX1_23 dX1_note_54 (by decide), ?_⟩
  refine List.forall_mem_cons.mpr ⟨ok_vret F G dX1_note_57 (by decide), ?_⟩
  exact fun _ h => absurd h List.not_mem_nil
set_option maxRecDepth 100000 in
theorem w_X1_note : (∀ (K : Kt NT) (n : Nat) (L : xL) (st : List Value) (S : NT), nx cod_X1_note cut_X1_note K (n + 1) 0 L st S = (O_int 6 2) (nx cod_X1_note cut_X1_note K n) 0 L st S) ∧
  (∀ (K : Kt NT) (n : Nat) (L : xL) (st : List Value) (S : NT), nx cod_X1_note cut_X1_note K (n + 1) 2 L st S = (O_istore 1 1) (nx cod_X1_note cut_X1_note K n) 2 L st S) ∧
  (∀ (K : Kt NT) (n : Nat) (L : xL) (st : List Value) (S : NT), nx cod_X1_note cut_X1_note K (n + 1) 3 L st S = K 3 L st S) ∧
  (∀ (K : Kt NT) (n : Nat) (L : xL) (st : List Value) (S : NT), nx1 cod_X1_note cut_X1_note K n 3 L st S = (O_iload 1 1) (nx cod_X1_note cut_X1_note K n) 3 L st S) ∧
  (∀ (K : Kt NT) (n : Nat) (L : xL) (st : List Value) (S : NT), nx cod_X1_note cut_X1_note K (n + 1) 4 L st S = (O_if_le 27) (nx cod_X1_note cut_X1_note K n) 4 L st S) ∧
  (∀ (K : Kt NT) (n : Nat) (L : xL) (st : List Value) (S : NT), nx cod_X1_note cut_X1_note K (n + 1) 7 L st S = (O_aload 0 1) (nx cod_X1_note cut_X1_note K n) 7 L st S) ∧
  (∀ (K : Kt NT) (n : Nat) (L : xL) (st : List Value) (S : NT), nx cod_X1_note cut_X1_note K (n + 1) 8 L st S = (O_getf nW 1 0) (nx cod_X1_note cut_X1_note K n) 8 L st S) ∧
  (∀ (K : Kt NT) (n : Nat) (L : xL) (st : List Value) (S : NT), nx cod_X1_note cut_X1_note K (n + 1) 11 L st S = (O_iload 1 1) (nx cod_X1_note cut_X1_note K n) 11 L st S) ∧
  (∀ (K : Kt NT) (n : Nat) (L : xL) (st : List Value) (S : NT), nx cod_X1_note cut_X1_note K (n + 1) 12 L st S = (O_aload 0 1) (nx cod_X1_note cut_X1_note K n) 12 L st S) ∧
  (∀ (K : Kt NT) (n : Nat) (L : xL) (st : List Value) (S : NT), nx cod_X1_note cut_X1_note K (n + 1) 13 L st S = (O_getf nW 1 0) (nx cod_X1_note cut_X1_note K n) 13 L st S) ∧
  (∀ (K : Kt NT) (n : Nat) (L : xL) (st : List Value) (S : NT), nx cod_X1_note cut_X1_note K (n + 1) 16 L st S = (O_iload 1 1) (nx cod_X1_note cut_X1_note K n) 16 L st S) ∧
  (∀ (K : Kt NT) (n : Nat) (L : xL) (st : List Value) (S : NT), nx cod_X1_note cut_X1_note K (n + 1) 17 L st S = (O_int 1 1) (nx cod_X1_note cut_X1_note K n) 17 L st S) ∧
  (∀ (K : Kt NT) (n : Nat) (L : xL) (st : List Value) (S : NT), nx cod_X1_note cut_X1_note K (n + 1) 18 L st S = (O_isub) (nx cod_X1_note cut_X1_note K n) 18 L st S) ∧
  (∀ (K : Kt NT) (n : Nat) (L : xL) (st : List Value) (S : NT), nx cod_X1_note cut_X1_note K (n + 1) 19 L st S = (O_ald nW 0) (nx cod_X1_note cut_X1_note K n) 19 L st S) ∧
  (∀ (K : Kt NT) (n : Nat) (L : xL) (st : List Value) (S : NT), nx cod_X1_note cut_X1_note K (n + 1) 20 L st S = (O_ast nW 0 nW_sa) (nx cod_X1_note cut_X1_note K n) 20 L st S) ∧
  (∀ (K : Kt NT) (n : Nat) (L : xL) (st : List Value) (S : NT), nx cod_X1_note cut_X1_note K (n + 1) 21 L st S = (O_iinc 1 (-1)) (nx cod_X1_note cut_X1_note K n) 21 L st S) ∧
  (∀ (K : Kt NT) (n : Nat) (L : xL) (st : List Value) (S : NT), nx cod_X1_note cut_X1_note K (n + 1) 24 L st S = (O_goto 3) (nx cod_X1_note cut_X1_note K n) 24 L st S) ∧
  (∀ (K : Kt NT) (n : Nat) (L : xL) (st : List Value) (S : NT), nx cod_X1_note cut_X1_note K (n + 1) 27 L st S = (O_aload 0 1) (nx cod_X1_note cut_X1_note K n) 27 L st S) ∧
  (∀ (K : Kt NT) (n : Nat) (L : xL) (st : List Value) (S : NT), nx cod_X1_note cut_X1_note K (n + 1) 28 L st S = (O_getf nW 1 0) (nx cod_X1_note cut_X1_note K n) 28 L st S) ∧
  (∀ (K : Kt NT) (n : Nat) (L : xL) (st : List Value) (S : NT), nx cod_X1_note cut_X1_note K (n + 1) 31 L st S = (O_int 0 1) (nx cod_X1_note cut_X1_note K n) 31 L st S) ∧
  (∀ (K : Kt NT) (n : Nat) (L : xL) (st : List Value) (S : NT), nx cod_X1_note cut_X1_note K (n + 1) 32 L st S = (O_aload 0 1) (nx cod_X1_note cut_X1_note K n) 32 L st S) ∧
  (∀ (K : Kt NT) (n : Nat) (L : xL) (st : List Value) (S : NT), nx cod_X1_note cut_X1_note K (n + 1) 33 L st S = (O_getf nW 1 2) (nx cod_X1_note cut_X1_note K n) 33 L st S) ∧
  (∀ (K : Kt NT) (n : Nat) (L : xL) (st : List Value) (S : NT), nx cod_X1_note cut_X1_note K (n + 1) 36 L st S = (O_ast nW 0 nW_sa) (nx cod_X1_note cut_X1_note K n) 36 L st S) ∧
  (∀ (K : Kt NT) (n : Nat) (L : xL) (st : List Value) (S : NT), nx cod_X1_note cut_X1_note K (n + 1) 37 L st S = (O_aload 0 1) (nx cod_X1_note cut_X1_note K n) 37 L st S) ∧
  (∀ (K : Kt NT) (n : Nat) (L : xL) (st : List Value) (S : NT), nx cod_X1_note cut_X1_note K (n + 1) 38 L st S = (O_int 7 2) (nx cod_X1_note cut_X1_note K n) 38 L st S) ∧
  (∀ (K : Kt NT) (n : Nat) (L : xL) (st : List Value) (S : NT), nx cod_X1_note cut_X1_note K (n + 1) 40 L st S = (O_aload 0 1) (nx cod_X1_note cut_X1_note K n) 40 L st S) ∧
  (∀ (K : Kt NT) (n : Nat) (L : xL) (st : List Value) (S : NT), nx cod_X1_note cut_X1_note K (n + 1) 41 L st S = (O_getf nW 1 1) (nx cod_X1_note cut_X1_note K n) 41 L st S) ∧
  (∀ (K : Kt NT) (n : Nat) (L : xL) (st : List Value) (S : NT), nx cod_X1_note cut_X1_note K (n + 1) 44 L st S = (O_int 1 1) (nx cod_X1_note cut_X1_note K n) 44 L st S) ∧
  (∀ (K : Kt NT) (n : Nat) (L : xL) (st : List Value) (S : NT), nx cod_X1_note cut_X1_note K (n + 1) 45 L st S = (O_iadd) (nx cod_X1_note cut_X1_note K n) 45 L st S) ∧
  (∀ (K : Kt NT) (n : Nat) (L : xL) (st : List Value) (S : NT), nx cod_X1_note cut_X1_note K (n + 1) 46 L st S = (O_min) (nx cod_X1_note cut_X1_note K n) 46 L st S) ∧
  (∀ (K : Kt NT) (n : Nat) (L : xL) (st : List Value) (S : NT), nx cod_X1_note cut_X1_note K (n + 1) 49 L st S = (O_puti nW_p1_1) (nx cod_X1_note cut_X1_note K n) 49 L st S) ∧
  (∀ (K : Kt NT) (n : Nat) (L : xL) (st : List Value) (S : NT), nx cod_X1_note cut_X1_note K (n + 1) 52 L st S = (O_aload 0 1) (nx cod_X1_note cut_X1_note K n) 52 L st S) ∧
  (∀ (K : Kt NT) (n : Nat) (L : xL) (st : List Value) (S : NT), nx cod_X1_note cut_X1_note K (n + 1) 53 L st S = (O_int 0 1) (nx cod_X1_note cut_X1_note K n) 53 L st S) ∧
  (∀ (K : Kt NT) (n : Nat) (L : xL) (st : List Value) (S : NT), nx cod_X1_note cut_X1_note K (n + 1) 54 L st S = (O_puti nW_p1_2) (nx cod_X1_note cut_X1_note K n) 54 L st S) ∧
  (∀ (K : Kt NT) (n : Nat) (L : xL) (st : List Value) (S : NT), nx cod_X1_note cut_X1_note K (n + 1) 57 L st S = (O_vret) (nx cod_X1_note cut_X1_note K n) 57 L st S) ∧
  (∀ (K : Kt NT) (n : Nat) (L : xL) (st : List Value) (S : NT), nx cod_X1_note cut_X1_note K (n + 1) 100000 L st S = K 100000 L st S) := by
  repeat' apply And.intro
  all_goals (intros; rfl)
set_option maxRecDepth 100000 in
theorem mk_X1_note {P P' : NT} {r : Option Value}  (body : ∀ E : En, CodOk E nW cod_X1_note → Gd E nW 100000 [] r.toList P' → Gd E nW 0 [some (.ref 0), none] [] P) : Con yX1_note cX1_note 2 none 1 nW [.ref 0] P r P' :=
  Con.of (by decide) rfl rfl (Nat.le_of_ble_eq_true rfl) (fun E F G hr => body E (okc_X1_note F G) hr)
theorem con_X1_note (S : NT)  : Con yX1_note cX1_note 2 none 1 nW [.ref 0] S (none) (S.note) := by
  refine mk_X1_note (fun E C hr => ?_)
  (refine nx_ok C (cuts := cut_X1_note) 1000 _ _ _ _ ?_; simp only [w_X1_note, ops_eq, xst_eq, call_eq, oK_eq, Option.toList_some, Option.toList_none, List.cons_append, List.nil_append, List.length_cons, List.length_nil, true_and, and_true, Nat.reduceAdd, nW_F, nW_A, nW_S, nW_P, NT_gs])
  refine it_up (f := NT.shift) (a := S) (n := 6) (fun _ T => T.size = S.size ∧ T.flow = S.flow) (fun k T => Gd E nW 3 [some (.ref 0), some (.int (nI (6 - k)))] [] T) ⟨rfl, rfl⟩ (fun k T hk hT => hT) (fun k T hk hT hn => ?_) ?_
  · have hx := n6 k hk
    (refine nx1_ok C cut_X1_note 1000 ?_; simp only [w_X1_note, ops_eq, xst_eq, call_eq, oK_eq, Option.toList_some, Option.toList_none, List.cons_append, List.nil_append, List.length_cons, List.length_nil, true_and, and_true, Nat.reduceAdd, nW_F, nW_A, nW_S, nW_P, NT_gs, hx, show ∀ x, xnar 0 x = x from fun _ => rfl])
    ((repeat' (with_reducible first | apply And.intro | intro _)) <;> simp_all [NT.shift, NT_gs])
  · have hT : (it NT.shift S 6).size = S.size ∧ (it NT.shift S 6).flow = S.flow := it_inv (fun _ (T : NT) => T.size = S.size ∧ T.flow = S.flow) ⟨rfl, rfl⟩ (fun k T hk hT => hT)
    (refine nx1_ok C cut_X1_note 1000 ?_; simp only [w_X1_note, ops_eq, xst_eq, call_eq, oK_eq, Option.toList_some, Option.toList_none, List.cons_append, List.nil_append, List.length_cons, List.length_nil, true_and, and_true, Nat.reduceAdd, nW_F, nW_A, nW_S, nW_P, NT_gs, show nI (6 - 6) = 0 from rfl, cl_eq, show vp_in 0 7 from by unfold vp_in; decide, hT, show ∀ x, xnar 0 x = x from fun _ => rfl])
    ((repeat' (with_reducible first | apply And.intro | intro _)) <;> simp_all [NT.note, NT_gs])
def sp_X1_note : Sp NT := fun av S K => match av with
  | [.ref 0] => K (none) (S.note)
  | _ => False
theorem se_X1_note  (S : NT) (K : Option Value → NT → Prop) : sp_X1_note [.ref 0] S K = (K (none) (S.note)) := rfl
theorem spok_X1_note : SpOk yX1_note cX1_note 2 none 1 nW sp_X1_note := by
  intro av S K h
  unfold sp_X1_note at h
  split at h
  · exact ⟨none, S.note, trivial, con_X1_note S , h⟩
  · exact h.elim
theorem flX1_26 : fldOk RX1 26 1 3 = true := by decide +kernel
def cod_X1_copyFrom : List (Nat × Op (NT × NT)) := [(0, O_aload 1 1), (1, O_getf nW2 1 0), (4, O_int 0 1), (5, O_aload 0 1), (6, O_getf nW2 1 0), (9, O_int 0 1), (10, O_int 7 2), (12, O_acopy nW2 nW2_sa), (15, O_aload 0 1), (16, O_aload 1 1), (17, O_getf nW2 1 1), (20, O_puti nW2_p1_1), (23, O_aload 0 1), (24, O_aload 1 1), (25, O_getf nW2 1 2), (28, O_puti nW2_p1_2), (31, O_aload 0 1), (32, O_aload 1 1), (33, O_getf nW2 1 3), (36, O_puti nW2_p1_3), (39, O_vret)]
abbrev cut_X1_copyFrom : List Nat := []
set_option maxRecDepth 100000 in
theorem okc_X1_copyFrom {E : En} (F : Fx E RX1 cX1_copyFrom 2 1) (G : Fr E none) : CodOk E nW2 cod_X1_copyFrom := by
  unfold CodOk cod_X1_copyFrom
  refine List.forall_mem_cons.mpr ⟨ok_aload_n F dX1_copyFrom_0 rfl (by decide), ?_⟩
  refine List.forall_mem_cons.mpr ⟨ok_getf F flX1_9 dX1_copyFrom_1 (by decide), ?_⟩
  refine List.forall_mem_cons.mpr ⟨ok_iconst F dX1_copyFrom_4 (by decide) (by decide), ?_⟩
  refine List.forall_mem_cons.mpr ⟨ok_aload_n F dX1_copyFrom_5 rfl (by decide), ?_⟩
  refine List.forall_mem_cons.mpr ⟨ok_getf F flX1_9 dX1_copyFrom_6 (by decide), ?_⟩
  refine List.forall_mem_cons.mpr ⟨ok_iconst F dX1_copyFrom_9 (by decide) (by decide), ?_⟩
  refine List.forall_mem_cons.mpr ⟨ok_bipush F dX1_copyFrom_10 (by decide) (by decide), ?_⟩
  refine List.forall_mem_cons.mpr ⟨ok_acopy F nW2_sar (by decide +kernel) (by decide) dX1_copyFrom_12 (by decide), ?_⟩
  refine List.forall_mem_cons.mpr ⟨ok_aload_n F dX1_copyFrom_15 rfl (by decide), ?_⟩
  refine List.forall_mem_cons.mpr ⟨ok_aload_n F dX1_copyFrom_16 rfl (by decide), ?_⟩
  refine List.forall_mem_cons.mpr ⟨ok_getf F flX1_19 dX1_copyFrom_17 (by decide), ?_⟩
  refine List.forall_mem_cons.mpr ⟨ok_puti F nW2_p1_1_ok (fun _ _ _ h => by cases h; rfl) rfl flX1_19 dX1_copyFrom_20 (by decide), ?_⟩
  refine List.forall_mem_cons.mpr ⟨ok_aload_n F dX1_copyFrom_23 rfl (by decide), ?_⟩
  refine List.forall_mem_cons.mpr ⟨ok_aload_n F dX1_copyFrom_24 rfl (by decide), ?_⟩
  refine List.forall_mem_cons.mpr ⟨ok_getf F flX1_23 dX1_copyFrom_25 (by decide), ?_⟩
  refine List.forall_mem_cons.mpr ⟨ok_puti F nW2_p1_2_ok (fun _ _ _ h => by cases h; rfl) rfl flX1_23 dX1_copyFrom_28 (by decide), ?_⟩
  refine List.forall_mem_cons.mpr ⟨ok_aload_n F dX1_copyFrom_31 rfl (by decide), ?_⟩
  refine List.forall_mem_cons.mpr ⟨ok_aload_n F dX1_copyFrom_32 rfl (by decide), ?_⟩
  refine List.forall_mem_cons.mpr ⟨ok_getf F flX1_26 dX1_copyFrom_33 (by decide), ?_⟩
  refine List.forall_mem_cons.mpr ⟨ok_puti F nW2_p1_3_ok (fun _ _ _ h => by cases h; rfl) rfl flX1_26 dX1_copyFrom_36 (by decide), ?_⟩
  refine List.forall_mem_cons.mpr ⟨ok_vret F G dX1_copyFrom_39 (by decide), ?_⟩
  exact fun _ h => absurd h List.not_mem_nil
set_option maxRecDepth 100000 in
theorem w_X1_copyFrom : (∀ (K : Kt (NT × NT)) (n : Nat) (L : xL) (st : List Value) (S : (NT × NT)), nx cod_X1_copyFrom cut_X1_copyFrom K (n + 1) 0 L st S = (O_aload 1 1) (nx cod_X1_copyFrom cut_X1_copyFrom K n) 0 L st S) ∧
  (∀ (K : Kt (NT × NT)) (n : Nat) (L : xL) (st : List Value) (S : (NT × NT)), nx cod_X1_copyFrom cut_X1_copyFrom K (n + 1) 1 L st S = (O_getf nW2 1 0) (nx cod_X1_copyFrom cut_X1_copyFrom K n) 1 L st S) ∧
  (∀ (K : Kt (NT × NT)) (n : Nat) (L : xL) (st : List Value) (S : (NT × NT)), nx cod_X1_copyFrom cut_X1_copyFrom K (n + 1) 4 L st S = (O_int 0 1) (nx cod_X1_copyFrom cut_X1_copyFrom K n) 4 L st S) ∧
  (∀ (K : Kt (NT × NT)) (n : Nat) (L : xL) (st : List Value) (S : (NT × NT)), nx cod_X1_copyFrom cut_X1_copyFrom K (n + 1) 5 L st S = (O_aload 0 1) (nx cod_X1_copyFrom cut_X1_copyFrom K n) 5 L st S) ∧
  (∀ (K : Kt (NT × NT)) (n : Nat) (L : xL) (st : List Value) (S : (NT × NT)), nx cod_X1_copyFrom cut_X1_copyFrom K (n + 1) 6 L st S = (O_getf nW2 1 0) (nx cod_X1_copyFrom cut_X1_copyFrom K n) 6 L st S) ∧
  (∀ (K : Kt (NT × NT)) (n : Nat) (L : xL) (st : List Value) (S : (NT × NT)), nx cod_X1_copyFrom cut_X1_copyFrom K (n + 1) 9 L st S = (O_int 0 1) (nx cod_X1_copyFrom cut_X1_copyFrom K n) 9 L st S) ∧
  (∀ (K : Kt (NT × NT)) (n : Nat) (L : xL) (st : List Value) (S : (NT × NT)), nx cod_X1_copyFrom cut_X1_copyFrom K (n + 1) 10 L st S = (O_int 7 2) (nx cod_X1_copyFrom cut_X1_copyFrom K n) 10 L st S) ∧
  (∀ (K : Kt (NT × NT)) (n : Nat) (L : xL) (st : List Value) (S : (NT × NT)), nx cod_X1_copyFrom cut_X1_copyFrom K (n + 1) 12 L st S = (O_acopy nW2 nW2_sa) (nx cod_X1_copyFrom cut_X1_copyFrom K n) 12 L st S) ∧
  (∀ (K : Kt (NT × NT)) (n : Nat) (L : xL) (st : List Value) (S : (NT × NT)), nx cod_X1_copyFrom cut_X1_copyFrom K (n + 1) 15 L st S = (O_aload 0 1) (nx cod_X1_copyFrom cut_X1_copyFrom K n) 15 L st S) ∧
  (∀ (K : Kt (NT × NT)) (n : Nat) (L : xL) (st : List Value) (S : (NT × NT)), nx cod_X1_copyFrom cut_X1_copyFrom K (n + 1) 16 L st S = (O_aload 1 1) (nx cod_X1_copyFrom cut_X1_copyFrom K n) 16 L st S) ∧
  (∀ (K : Kt (NT × NT)) (n : Nat) (L : xL) (st : List Value) (S : (NT × NT)), nx cod_X1_copyFrom cut_X1_copyFrom K (n + 1) 17 L st S = (O_getf nW2 1 1) (nx cod_X1_copyFrom cut_X1_copyFrom K n) 17 L st S) ∧
  (∀ (K : Kt (NT × NT)) (n : Nat) (L : xL) (st : List Value) (S : (NT × NT)), nx cod_X1_copyFrom cut_X1_copyFrom K (n + 1) 20 L st S = (O_puti nW2_p1_1) (nx cod_X1_copyFrom cut_X1_copyFrom K n) 20 L st S) ∧
  (∀ (K : Kt (NT × NT)) (n : Nat) (L : xL) (st : List Value) (S : (NT × NT)), nx cod_X1_copyFrom cut_X1_copyFrom K (n + 1) 23 L st S = (O_aload 0 1) (nx cod_X1_copyFrom cut_X1_copyFrom K n) 23 L st S) ∧
  (∀ (K : Kt (NT × NT)) (n : Nat) (L : xL) (st : List Value) (S : (NT × NT)), nx cod_X1_copyFrom cut_X1_copyFrom K (n + 1) 24 L st S = (O_aload 1 1) (nx cod_X1_copyFrom cut_X1_copyFrom K n) 24 L st S) ∧
  (∀ (K : Kt (NT × NT)) (n : Nat) (L : xL) (st : List Value) (S : (NT × NT)), nx cod_X1_copyFrom cut_X1_copyFrom K (n + 1) 25 L st S = (O_getf nW2 1 2) (nx cod_X1_copyFrom cut_X1_copyFrom K n) 25 L st S) ∧
  (∀ (K : Kt (NT × NT)) (n : Nat) (L : xL) (st : List Value) (S : (NT × NT)), nx cod_X1_copyFrom cut_X1_copyFrom K (n + 1) 28 L st S = (O_puti nW2_p1_2) (nx cod_X1_copyFrom cut_X1_copyFrom K n) 28 L st S) ∧
  (∀ (K : Kt (NT × NT)) (n : Nat) (L : xL) (st : List Value) (S : (NT × NT)), nx cod_X1_copyFrom cut_X1_copyFrom K (n + 1) 31 L st S = (O_aload 0 1) (nx cod_X1_copyFrom cut_X1_copyFrom K n) 31 L st S) ∧
  (∀ (K : Kt (NT × NT)) (n : Nat) (L : xL) (st : List Value) (S : (NT × NT)), nx cod_X1_copyFrom cut_X1_copyFrom K (n + 1) 32 L st S = (O_aload 1 1) (nx cod_X1_copyFrom cut_X1_copyFrom K n) 32 L st S) ∧
  (∀ (K : Kt (NT × NT)) (n : Nat) (L : xL) (st : List Value) (S : (NT × NT)), nx cod_X1_copyFrom cut_X1_copyFrom K (n + 1) 33 L st S = (O_getf nW2 1 3) (nx cod_X1_copyFrom cut_X1_copyFrom K n) 33 L st S) ∧
  (∀ (K : Kt (NT × NT)) (n : Nat) (L : xL) (st : List Value) (S : (NT × NT)), nx cod_X1_copyFrom cut_X1_copyFrom K (n + 1) 36 L st S = (O_puti nW2_p1_3) (nx cod_X1_copyFrom cut_X1_copyFrom K n) 36 L st S) ∧
  (∀ (K : Kt (NT × NT)) (n : Nat) (L : xL) (st : List Value) (S : (NT × NT)), nx cod_X1_copyFrom cut_X1_copyFrom K (n + 1) 39 L st S = (O_vret) (nx cod_X1_copyFrom cut_X1_copyFrom K n) 39 L st S) ∧
  (∀ (K : Kt (NT × NT)) (n : Nat) (L : xL) (st : List Value) (S : (NT × NT)), nx cod_X1_copyFrom cut_X1_copyFrom K (n + 1) 100000 L st S = K 100000 L st S) := by
  repeat' apply And.intro
  all_goals (intros; rfl)
set_option maxRecDepth 100000 in
theorem mk_X1_copyFrom {P P' : (NT × NT)} {r : Option Value}  (body : ∀ E : En, CodOk E nW2 cod_X1_copyFrom → Gd E nW2 100000 [] r.toList P' → Gd E nW2 0 [some (.ref 0), some (.ref 2)] [] P) : Con yX1_copyFrom cX1_copyFrom 2 none 1 nW2 [.ref 0, .ref 2] P r P' :=
  Con.of (by decide) rfl rfl (Nat.le_of_ble_eq_true rfl) (fun E F G hr => body E (okc_X1_copyFrom F G) hr)
theorem con_X1_copyFrom (S : (NT × NT))  : Con yX1_copyFrom cX1_copyFrom 2 none 1 nW2 [.ref 0, .ref 2] S (none) ((S.2, S.2)) := by
  refine mk_X1_copyFrom (fun E C hr => ?_)
  (refine nx_ok C (cuts := cut_X1_copyFrom) 1000 _ _ _ _ ?_; simp only [w_X1_copyFrom, ops_eq, xst_eq, call_eq, oK_eq, Option.toList_some, Option.toList_none, List.cons_append, List.nil_append, List.length_cons, List.length_nil, true_and, and_true, Nat.reduceAdd, nW2_F, nW2_A, nW2_S, nW2_P, acopy_eq, O_callC_eq, NT_gs, fits_int, cl_eq])
  ((repeat' (with_reducible first | apply And.intro | intro _)) <;> simp_all [NT_gs])
  exact hr
def sp_X1_copyFrom : Sp (NT × NT) := fun av S K => match av with
  | [.ref 0, .ref 2] => K (none) ((S.2, S.2))
  | _ => False
theorem se_X1_copyFrom  (S : (NT × NT)) (K : Option Value → (NT × NT) → Prop) : sp_X1_copyFrom [.ref 0, .ref 2] S K = (K (none) ((S.2, S.2))) := rfl
theorem spok_X1_copyFrom : SpOk yX1_copyFrom cX1_copyFrom 2 none 1 nW2 sp_X1_copyFrom := by
  intro av S K h
  unfold sp_X1_copyFrom at h
  split at h
  · exact ⟨none, (S.2, S.2), trivial, con_X1_copyFrom S , h⟩
  · exact h.elim
theorem rem_eq (x y : Int32) : x - x / y * y = x % y := by
  apply Int32.toInt_inj.mp
  have h := Int32.toInt_bmod (x % y)
  rw [Int32.toInt_mod, Int.tmod_def] at h
  simp only [Int32.toInt_sub, Int32.toInt_mul, Int32.toInt_div, Int32.toInt_mod, Int.sub_bmod_bmod, Int.bmod_mul_bmod]
  rw [Int.mul_comm, Int.tmod_def]
  exact h
def ET.row (S : ET) : Nat := (S.all % 12).toNatClampNeg
def ET.add (S : ET) (k t p : Int32) : ET := if S.all < 0 then S else ((((S.sKinds (upd S.kinds S.row k)).sTimes (upd S.times S.row t)).sPumps (upd S.pumps S.row p)).sLatest (upd S.latest k.toNatClampNeg t)).sAll (S.all + 1)
theorem vp8 {k : Int32} (h : vp_in k 8) : ¬ k < 0 ∧ k < 8 := by
  obtain ⟨a, ha, rfl⟩ := vp_in_of h (by omega)
  exact ⟨nI_pos (by omega), by rw [show (8 : Int32) = nI 8 from rfl, nI_ltI (by omega) (by omega)]; exact ha⟩
theorem rem_in {x : Int32} (h : ¬ x < 0) : vp_in (x % 12) 12 := by
  have h0 : 0 ≤ x.toInt := by
    rw [Int32.lt_iff_toInt_lt] at h
    simpa using h
  have e : (x % 12).toInt = x.toInt % 12 := by
    rw [Int32.toInt_mod, show (12 : Int32).toInt = 12 from rfl, Int.tmod_eq_emod_of_nonneg h0]
  have h1 : 0 ≤ (x % 12).toInt := by rw [e]; exact Int.emod_nonneg _ (by decide)
  have h2 : (x % 12).toInt < 12 := by rw [e]; exact Int.emod_lt_of_pos _ (by decide)
  intro q
  rcases q with q | q
  · rw [Int32.lt_iff_toInt_lt] at q
    have : (0 : Int32).toInt = 0 := rfl
    omega
  · have : (x % 12).toNatClampNeg = (x % 12).toInt.toNat := rfl
    omega
theorem flX0_11 : fldOk RX0 11 0 0 = true := by decide +kernel
theorem flX0_15 : fldOk RX0 15 0 1 = true := by decide +kernel
theorem flX0_18 : fldOk RX0 18 0 2 = true := by decide +kernel
theorem flX0_21 : fldOk RX0 21 0 3 = true := by decide +kernel
theorem flX0_30 : fldOk RX0 30 0 4 = true := by decide +kernel
def cod_X0_add : List (Nat × Op ET) := [(0, O_iload 1 1), (1, O_if_lt 17), (4, O_iload 1 1), (5, O_int 8 2), (7, O_icmp_ge 17), (10, O_aload 0 1), (11, O_getf eW 0 4), (14, O_if_ge 18), (17, O_vret), (18, O_aload 0 1), (19, O_getf eW 0 4), (22, O_int 12 2), (24, O_irem), (25, O_istore 4 2), (27, O_aload 0 1), (28, O_getf eW 0 0), (31, O_iload 4 2), (33, O_iload 1 1), (34, O_ast eW 0 eW_sa), (35, O_aload 0 1), (36, O_getf eW 0 1), (39, O_iload 4 2), (41, O_iload 2 1), (42, O_ast eW 0 eW_sa), (43, O_aload 0 1), (44, O_getf eW 0 2), (47, O_iload 4 2), (49, O_iload 3 1), (50, O_ast eW 0 eW_sa), (51, O_aload 0 1), (52, O_getf eW 0 3), (55, O_iload 1 1), (56, O_iload 2 1), (57, O_ast eW 0 eW_sa), (58, O_aload 0 1), (59, O_dup), (60, O_getf eW 0 4), (63, O_int 1 1), (64, O_iadd), (65, O_puti eW_p0_4), (68, O_vret)]
abbrev cut_X0_add : List Nat := []
set_option maxRecDepth 100000 in
theorem okc_X0_add {E : En} (F : Fx E RX0 cX0_add 5 0) (G : Fr E none) : CodOk E eW cod_X0_add := by
  unfold CodOk cod_X0_add
  refine List.forall_mem_cons.mpr ⟨ok_iload_n F dX0_add_0 rfl (by decide), ?_⟩
  refine List.forall_mem_cons.mpr ⟨ok_if_lt F dX0_add_1 (by decide) (by decide) (by decide), ?_⟩
  refine List.forall_mem_cons.mpr ⟨ok_iload_n F dX0_add_4 rfl (by decide), ?_⟩
  refine List.forall_mem_cons.mpr ⟨ok_bipush F dX0_add_5 (by decide) (by decide), ?_⟩
  refine List.forall_mem_cons.mpr ⟨ok_icmp_ge F dX0_add_7 (by decide) (by decide) (by decide), ?_⟩
  refine List.forall_mem_cons.mpr ⟨ok_aload_n F dX0_add_10 rfl (by decide), ?_⟩
  refine List.forall_mem_cons.mpr ⟨ok_getf F flX0_30 dX0_add_11 (by decide), ?_⟩
  refine List.forall_mem_cons.mpr ⟨ok_if_ge F dX0_add_14 (by decide) (by decide) (by decide), ?_⟩
  refine List.forall_mem_cons.mpr ⟨ok_vret F G dX0_add_17 (by decide), ?_⟩
  refine List.forall_mem_cons.mpr ⟨ok_aload_n F dX0_add_18 rfl (by decide), ?_⟩
  refine List.forall_mem_cons.mpr ⟨ok_getf F flX0_30 dX0_add_19 (by decide), ?_⟩
  refine List.forall_mem_cons.mpr ⟨ok_bipush F dX0_add_22 (by decide) (by decide), ?_⟩
  refine List.forall_mem_cons.mpr ⟨ok_irem F dX0_add_24 (by decide), ?_⟩
  refine List.forall_mem_cons.mpr ⟨ok_istore F dX0_add_25 (by decide) (by decide), ?_⟩
  refine List.forall_mem_cons.mpr ⟨ok_aload_n F dX0_add_27 rfl (by decide), ?_⟩
  refine List.forall_mem_cons.mpr ⟨ok_getf F flX0_11 dX0_add_28 (by decide), ?_⟩
  refine List.forall_mem_cons.mpr ⟨ok_iload F dX0_add_31 (by decide), ?_⟩
  refine List.forall_mem_cons.mpr ⟨ok_iload_n F dX0_add_33 rfl (by decide), ?_⟩
  refine List.forall_mem_cons.mpr ⟨ok_iast F eW_sar dX0_add_34 (by decide), ?_⟩
  refine List.forall_mem_cons.mpr ⟨ok_aload_n F dX0_add_35 rfl (by decide), ?_⟩
  refine List.forall_mem_cons.mpr ⟨ok_getf F flX0_15 dX0_add_36 (by decide), ?_⟩
  refine List.forall_mem_cons.mpr ⟨ok_iload F dX0_add_39 (by decide), ?_⟩
  refine List.forall_mem_cons.mpr ⟨ok_iload_n F dX0_add_41 rfl (by decide), ?_⟩
  refine List.forall_mem_cons.mpr ⟨ok_iast F eW_sar dX0_add_42 (by decide), ?_⟩
  refine List.forall_mem_cons.mpr ⟨ok_aload_n F dX0_add_43 rfl (by decide), ?_⟩
  refine List.forall_mem_cons.mpr ⟨ok_getf F flX0_18 dX0_add_44 (by decide), ?_⟩
  refine List.forall_mem_cons.mpr ⟨ok_iload F dX0_add_47 (by decide), ?_⟩
  refine List.forall_mem_cons.mpr ⟨ok_iload_n F dX0_add_49 rfl (by decide), ?_⟩
  refine List.forall_mem_cons.mpr ⟨ok_iast F eW_sar dX0_add_50 (by decide), ?_⟩
  refine List.forall_mem_cons.mpr ⟨ok_aload_n F dX0_add_51 rfl (by decide), ?_⟩
  refine List.forall_mem_cons.mpr ⟨ok_getf F flX0_21 dX0_add_52 (by decide), ?_⟩
  refine List.forall_mem_cons.mpr ⟨ok_iload_n F dX0_add_55 rfl (by decide), ?_⟩
  refine List.forall_mem_cons.mpr ⟨ok_iload_n F dX0_add_56 rfl (by decide), ?_⟩
  refine List.forall_mem_cons.mpr ⟨ok_iast F eW_sar dX0_add_57 (by decide), ?_⟩
  refine List.forall_mem_cons.mpr ⟨ok_aload_n F dX0_add_58 rfl (by decide), ?_⟩
  refine List.forall_mem_cons.mpr ⟨ok_dup F dX0_add_59 (by decide), ?_⟩
  refine List.forall_mem_cons.mpr ⟨ok_getf F flX0_30 dX0_add_60 (by decide), ?_⟩
  refine List.forall_mem_cons.mpr ⟨ok_iconst F dX0_add_63 (by decide) (by decide), ?_⟩
  refine List.forall_mem_cons.mpr ⟨ok_iadd F dX0_add_64 (by decide), ?_⟩
  refine List.forall_mem_cons.mpr ⟨ok_puti F eW_p0_4_ok (fun _ _ _ h => by cases h; rfl) rfl flX0_30 dX0_add_65 (by decide), ?_⟩
  refine List.forall_mem_cons.mpr ⟨ok_vret F G dX0_add_68 (by decide), ?_⟩
  exact fun _ h => absurd h List.not_mem_nil
set_option maxRecDepth 100000 in
theorem w_X0_add : (∀ (K : Kt ET) (n : Nat) (L : xL) (st : List Value) (S : ET), nx cod_X0_add cut_X0_add K (n + 1) 0 L st S = (O_iload 1 1) (nx cod_X0_add cut_X0_add K n) 0 L st S) ∧
  (∀ (K : Kt ET) (n : Nat) (L : xL) (st : List Value) (S : ET), nx cod_X0_add cut_X0_add K (n + 1) 1 L st S = (O_if_lt 17) (nx cod_X0_add cut_X0_add K n) 1 L st S) ∧
  (∀ (K : Kt ET) (n : Nat) (L : xL) (st : List Value) (S : ET), nx cod_X0_add cut_X0_add K (n + 1) 4 L st S = (O_iload 1 1) (nx cod_X0_add cut_X0_add K n) 4 L st S) ∧
  (∀ (K : Kt ET) (n : Nat) (L : xL) (st : List Value) (S : ET), nx cod_X0_add cut_X0_add K (n + 1) 5 L st S = (O_int 8 2) (nx cod_X0_add cut_X0_add K n) 5 L st S) ∧
  (∀ (K : Kt ET) (n : Nat) (L : xL) (st : List Value) (S : ET), nx cod_X0_add cut_X0_add K (n + 1) 7 L st S = (O_icmp_ge 17) (nx cod_X0_add cut_X0_add K n) 7 L st S) ∧
  (∀ (K : Kt ET) (n : Nat) (L : xL) (st : List Value) (S : ET), nx cod_X0_add cut_X0_add K (n + 1) 10 L st S = (O_aload 0 1) (nx cod_X0_add cut_X0_add K n) 10 L st S) ∧
  (∀ (K : Kt ET) (n : Nat) (L : xL) (st : List Value) (S : ET), nx cod_X0_add cut_X0_add K (n + 1) 11 L st S = (O_getf eW 0 4) (nx cod_X0_add cut_X0_add K n) 11 L st S) ∧
  (∀ (K : Kt ET) (n : Nat) (L : xL) (st : List Value) (S : ET), nx cod_X0_add cut_X0_add K (n + 1) 14 L st S = (O_if_ge 18) (nx cod_X0_add cut_X0_add K n) 14 L st S) ∧
  (∀ (K : Kt ET) (n : Nat) (L : xL) (st : List Value) (S : ET), nx cod_X0_add cut_X0_add K (n + 1) 17 L st S = (O_vret) (nx cod_X0_add cut_X0_add K n) 17 L st S) ∧
  (∀ (K : Kt ET) (n : Nat) (L : xL) (st : List Value) (S : ET), nx cod_X0_add cut_X0_add K (n + 1) 18 L st S = (O_aload 0 1) (nx cod_X0_add cut_X0_add K n) 18 L st S) ∧
  (∀ (K : Kt ET) (n : Nat) (L : xL) (st : List Value) (S : ET), nx cod_X0_add cut_X0_add K (n + 1) 19 L st S = (O_getf eW 0 4) (nx cod_X0_add cut_X0_add K n) 19 L st S) ∧
  (∀ (K : Kt ET) (n : Nat) (L : xL) (st : List Value) (S : ET), nx cod_X0_add cut_X0_add K (n + 1) 22 L st S = (O_int 12 2) (nx cod_X0_add cut_X0_add K n) 22 L st S) ∧
  (∀ (K : Kt ET) (n : Nat) (L : xL) (st : List Value) (S : ET), nx cod_X0_add cut_X0_add K (n + 1) 24 L st S = (O_irem) (nx cod_X0_add cut_X0_add K n) 24 L st S) ∧
  (∀ (K : Kt ET) (n : Nat) (L : xL) (st : List Value) (S : ET), nx cod_X0_add cut_X0_add K (n + 1) 25 L st S = (O_istore 4 2) (nx cod_X0_add cut_X0_add K n) 25 L st S) ∧
  (∀ (K : Kt ET) (n : Nat) (L : xL) (st : List Value) (S : ET), nx cod_X0_add cut_X0_add K (n + 1) 27 L st S = (O_aload 0 1) (nx cod_X0_add cut_X0_add K n) 27 L st S) ∧
  (∀ (K : Kt ET) (n : Nat) (L : xL) (st : List Value) (S : ET), nx cod_X0_add cut_X0_add K (n + 1) 28 L st S = (O_getf eW 0 0) (nx cod_X0_add cut_X0_add K n) 28 L st S) ∧
  (∀ (K : Kt ET) (n : Nat) (L : xL) (st : List Value) (S : ET), nx cod_X0_add cut_X0_add K (n + 1) 31 L st S = (O_iload 4 2) (nx cod_X0_add cut_X0_add K n) 31 L st S) ∧
  (∀ (K : Kt ET) (n : Nat) (L : xL) (st : List Value) (S : ET), nx cod_X0_add cut_X0_add K (n + 1) 33 L st S = (O_iload 1 1) (nx cod_X0_add cut_X0_add K n) 33 L st S) ∧
  (∀ (K : Kt ET) (n : Nat) (L : xL) (st : List Value) (S : ET), nx cod_X0_add cut_X0_add K (n + 1) 34 L st S = (O_ast eW 0 eW_sa) (nx cod_X0_add cut_X0_add K n) 34 L st S) ∧
  (∀ (K : Kt ET) (n : Nat) (L : xL) (st : List Value) (S : ET), nx cod_X0_add cut_X0_add K (n + 1) 35 L st S = (O_aload 0 1) (nx cod_X0_add cut_X0_add K n) 35 L st S) ∧
  (∀ (K : Kt ET) (n : Nat) (L : xL) (st : List Value) (S : ET), nx cod_X0_add cut_X0_add K (n + 1) 36 L st S = (O_getf eW 0 1) (nx cod_X0_add cut_X0_add K n) 36 L st S) ∧
  (∀ (K : Kt ET) (n : Nat) (L : xL) (st : List Value) (S : ET), nx cod_X0_add cut_X0_add K (n + 1) 39 L st S = (O_iload 4 2) (nx cod_X0_add cut_X0_add K n) 39 L st S) ∧
  (∀ (K : Kt ET) (n : Nat) (L : xL) (st : List Value) (S : ET), nx cod_X0_add cut_X0_add K (n + 1) 41 L st S = (O_iload 2 1) (nx cod_X0_add cut_X0_add K n) 41 L st S) ∧
  (∀ (K : Kt ET) (n : Nat) (L : xL) (st : List Value) (S : ET), nx cod_X0_add cut_X0_add K (n + 1) 42 L st S = (O_ast eW 0 eW_sa) (nx cod_X0_add cut_X0_add K n) 42 L st S) ∧
  (∀ (K : Kt ET) (n : Nat) (L : xL) (st : List Value) (S : ET), nx cod_X0_add cut_X0_add K (n + 1) 43 L st S = (O_aload 0 1) (nx cod_X0_add cut_X0_add K n) 43 L st S) ∧
  (∀ (K : Kt ET) (n : Nat) (L : xL) (st : List Value) (S : ET), nx cod_X0_add cut_X0_add K (n + 1) 44 L st S = (O_getf eW 0 2) (nx cod_X0_add cut_X0_add K n) 44 L st S) ∧
  (∀ (K : Kt ET) (n : Nat) (L : xL) (st : List Value) (S : ET), nx cod_X0_add cut_X0_add K (n + 1) 47 L st S = (O_iload 4 2) (nx cod_X0_add cut_X0_add K n) 47 L st S) ∧
  (∀ (K : Kt ET) (n : Nat) (L : xL) (st : List Value) (S : ET), nx cod_X0_add cut_X0_add K (n + 1) 49 L st S = (O_iload 3 1) (nx cod_X0_add cut_X0_add K n) 49 L st S) ∧
  (∀ (K : Kt ET) (n : Nat) (L : xL) (st : List Value) (S : ET), nx cod_X0_add cut_X0_add K (n + 1) 50 L st S = (O_ast eW 0 eW_sa) (nx cod_X0_add cut_X0_add K n) 50 L st S) ∧
  (∀ (K : Kt ET) (n : Nat) (L : xL) (st : List Value) (S : ET), nx cod_X0_add cut_X0_add K (n + 1) 51 L st S = (O_aload 0 1) (nx cod_X0_add cut_X0_add K n) 51 L st S) ∧
  (∀ (K : Kt ET) (n : Nat) (L : xL) (st : List Value) (S : ET), nx cod_X0_add cut_X0_add K (n + 1) 52 L st S = (O_getf eW 0 3) (nx cod_X0_add cut_X0_add K n) 52 L st S) ∧
  (∀ (K : Kt ET) (n : Nat) (L : xL) (st : List Value) (S : ET), nx cod_X0_add cut_X0_add K (n + 1) 55 L st S = (O_iload 1 1) (nx cod_X0_add cut_X0_add K n) 55 L st S) ∧
  (∀ (K : Kt ET) (n : Nat) (L : xL) (st : List Value) (S : ET), nx cod_X0_add cut_X0_add K (n + 1) 56 L st S = (O_iload 2 1) (nx cod_X0_add cut_X0_add K n) 56 L st S) ∧
  (∀ (K : Kt ET) (n : Nat) (L : xL) (st : List Value) (S : ET), nx cod_X0_add cut_X0_add K (n + 1) 57 L st S = (O_ast eW 0 eW_sa) (nx cod_X0_add cut_X0_add K n) 57 L st S) ∧
  (∀ (K : Kt ET) (n : Nat) (L : xL) (st : List Value) (S : ET), nx cod_X0_add cut_X0_add K (n + 1) 58 L st S = (O_aload 0 1) (nx cod_X0_add cut_X0_add K n) 58 L st S) ∧
  (∀ (K : Kt ET) (n : Nat) (L : xL) (st : List Value) (S : ET), nx cod_X0_add cut_X0_add K (n + 1) 59 L st S = (O_dup) (nx cod_X0_add cut_X0_add K n) 59 L st S) ∧
  (∀ (K : Kt ET) (n : Nat) (L : xL) (st : List Value) (S : ET), nx cod_X0_add cut_X0_add K (n + 1) 60 L st S = (O_getf eW 0 4) (nx cod_X0_add cut_X0_add K n) 60 L st S) ∧
  (∀ (K : Kt ET) (n : Nat) (L : xL) (st : List Value) (S : ET), nx cod_X0_add cut_X0_add K (n + 1) 63 L st S = (O_int 1 1) (nx cod_X0_add cut_X0_add K n) 63 L st S) ∧
  (∀ (K : Kt ET) (n : Nat) (L : xL) (st : List Value) (S : ET), nx cod_X0_add cut_X0_add K (n + 1) 64 L st S = (O_iadd) (nx cod_X0_add cut_X0_add K n) 64 L st S) ∧
  (∀ (K : Kt ET) (n : Nat) (L : xL) (st : List Value) (S : ET), nx cod_X0_add cut_X0_add K (n + 1) 65 L st S = (O_puti eW_p0_4) (nx cod_X0_add cut_X0_add K n) 65 L st S) ∧
  (∀ (K : Kt ET) (n : Nat) (L : xL) (st : List Value) (S : ET), nx cod_X0_add cut_X0_add K (n + 1) 68 L st S = (O_vret) (nx cod_X0_add cut_X0_add K n) 68 L st S) ∧
  (∀ (K : Kt ET) (n : Nat) (L : xL) (st : List Value) (S : ET), nx cod_X0_add cut_X0_add K (n + 1) 100000 L st S = K 100000 L st S) := by
  repeat' apply And.intro
  all_goals (intros; rfl)
set_option maxRecDepth 100000 in
theorem mk_X0_add {P P' : ET} {r : Option Value} {p0 : Int32} {p1 : Int32} {p2 : Int32} (body : ∀ E : En, CodOk E eW cod_X0_add → Gd E eW 100000 [] r.toList P' → Gd E eW 0 [some (.ref 0), some (.int p0), some (.int p1), some (.int p2), none] [] P) : Con yX0_add cX0_add 5 none 0 eW [.ref 0, .int p0, .int p1, .int p2] P r P' :=
  Con.of (by decide) rfl rfl (Nat.le_of_ble_eq_true rfl) (fun E F G hr => body E (okc_X0_add F G) hr)
theorem con_X0_add (S : ET) (k : Int32) (t : Int32) (p : Int32) (hp : vp_in k 8) : Con yX0_add cX0_add 5 none 0 eW [.ref 0, .int k, .int t, .int p] S (none) (S.add k t p) := by
  refine mk_X0_add (fun E C hr => ?_)
  have h8 := vp8 hp
  have hr12 := rem_in (x := S.all)
  (refine nx_ok C (cuts := cut_X0_add) 1000 _ _ _ _ ?_; simp only [w_X0_add, ops_eq, xst_eq, call_eq, oK_eq, Option.toList_some, Option.toList_none, List.cons_append, List.nil_append, List.length_cons, List.length_nil, true_and, and_true, Nat.reduceAdd, eW_F, eW_A, eW_S, eW_P, ET_gs, hp, h8, hr12, rem_eq, show ¬ (12 : Int32) = 0 from by decide, show ∀ x, xnar 0 x = x from fun _ => rfl])
  ((repeat' (with_reducible first | apply And.intro | intro _)) <;> simp_all [ET.add, ET.row, ET_gs])
def sp_X0_add : Sp ET := fun av S K => match av with
  | [.ref 0, .int k, .int t, .int p] => (vp_in k 8) ∧ K (none) (S.add k t p)
  | _ => False
theorem se_X0_add (k : Int32) (t : Int32) (p : Int32) (S : ET) (K : Option Value → ET → Prop) : sp_X0_add [.ref 0, .int k, .int t, .int p] S K = ((vp_in k 8) ∧ K (none) (S.add k t p)) := rfl
theorem spok_X0_add : SpOk yX0_add cX0_add 5 none 0 eW sp_X0_add := by
  intro av S K h
  unfold sp_X0_add at h
  split at h
  · rename_i k t p; exact ⟨none, S.add k t p, trivial, con_X0_add S k t p h.1, h.2⟩
  · exact h.elim
def ET.kept (S : ET) : Int32 := if S.all < 12 then S.all else 12
def cod_X0_kept : List (Nat × Op ET) := [(0, O_int 12 2), (2, O_aload 0 1), (3, O_getf eW 0 4), (6, O_min), (9, O_iret)]
abbrev cut_X0_kept : List Nat := []
set_option maxRecDepth 100000 in
theorem okc_X0_kept {E : En} (F : Fx E RX0 cX0_kept 1 1) (G : Fr E (some .int)) : CodOk E eW cod_X0_kept := by
  unfold CodOk cod_X0_kept
  refine List.forall_mem_cons.mpr ⟨ok_bipush F dX0_kept_0 (by decide) (by decide), ?_⟩
  refine List.forall_mem_cons.mpr ⟨ok_aload_n F dX0_kept_2 rfl (by decide), ?_⟩
  refine List.forall_mem_cons.mpr ⟨ok_getf F flX0_30 dX0_kept_3 (by decide), ?_⟩
  refine List.forall_mem_cons.mpr ⟨ok_min F (by decide +kernel) (by decide) dX0_kept_6 (by decide), ?_⟩
  refine List.forall_mem_cons.mpr ⟨ok_iret F G dX0_kept_9 (by decide), ?_⟩
  exact fun _ h => absurd h List.not_mem_nil
set_option maxRecDepth 100000 in
theorem w_X0_kept : (∀ (K : Kt ET) (n : Nat) (L : xL) (st : List Value) (S : ET), nx cod_X0_kept cut_X0_kept K (n + 1) 0 L st S = (O_int 12 2) (nx cod_X0_kept cut_X0_kept K n) 0 L st S) ∧
  (∀ (K : Kt ET) (n : Nat) (L : xL) (st : List Value) (S : ET), nx cod_X0_kept cut_X0_kept K (n + 1) 2 L st S = (O_aload 0 1) (nx cod_X0_kept cut_X0_kept K n) 2 L st S) ∧
  (∀ (K : Kt ET) (n : Nat) (L : xL) (st : List Value) (S : ET), nx cod_X0_kept cut_X0_kept K (n + 1) 3 L st S = (O_getf eW 0 4) (nx cod_X0_kept cut_X0_kept K n) 3 L st S) ∧
  (∀ (K : Kt ET) (n : Nat) (L : xL) (st : List Value) (S : ET), nx cod_X0_kept cut_X0_kept K (n + 1) 6 L st S = (O_min) (nx cod_X0_kept cut_X0_kept K n) 6 L st S) ∧
  (∀ (K : Kt ET) (n : Nat) (L : xL) (st : List Value) (S : ET), nx cod_X0_kept cut_X0_kept K (n + 1) 9 L st S = (O_iret) (nx cod_X0_kept cut_X0_kept K n) 9 L st S) ∧
  (∀ (K : Kt ET) (n : Nat) (L : xL) (st : List Value) (S : ET), nx cod_X0_kept cut_X0_kept K (n + 1) 100000 L st S = K 100000 L st S) := by
  repeat' apply And.intro
  all_goals (intros; rfl)
set_option maxRecDepth 100000 in
theorem mk_X0_kept {P P' : ET} {r : Option Value}  (body : ∀ E : En, CodOk E eW cod_X0_kept → Gd E eW 100000 [] r.toList P' → Gd E eW 0 [some (.ref 0)] [] P) : Con yX0_kept cX0_kept 1 (some .int) 1 eW [.ref 0] P r P' :=
  Con.of (by decide) rfl rfl (Nat.le_of_ble_eq_true rfl) (fun E F G hr => body E (okc_X0_kept F G) hr)
theorem con_X0_kept (S : ET)  : Con yX0_kept cX0_kept 1 (some .int) 1 eW [.ref 0] S (some (.int (S.kept))) (S) := by
  refine mk_X0_kept (fun E C hr => ?_)
  (refine nx_ok C (cuts := cut_X0_kept) 1000 _ _ _ _ ?_; simp only [w_X0_kept, ops_eq, xst_eq, call_eq, oK_eq, Option.toList_some, Option.toList_none, List.cons_append, List.nil_append, List.length_cons, List.length_nil, true_and, and_true, Nat.reduceAdd, eW_F, eW_A, eW_S, eW_P, ET_gs])
  ((repeat' (with_reducible first | apply And.intro | intro _)) <;> simp_all [ET.kept, ET_gs])
def sp_X0_kept : Sp ET := fun av S K => match av with
  | [.ref 0] => K (some (.int (S.kept))) (S)
  | _ => False
theorem se_X0_kept  (S : ET) (K : Option Value → ET → Prop) : sp_X0_kept [.ref 0] S K = (K (some (.int (S.kept))) (S)) := rfl
theorem spok_X0_kept : SpOk yX0_kept cX0_kept 1 (some .int) 1 eW sp_X0_kept := by
  intro av S K h
  unfold sp_X0_kept at h
  split at h
  · exact ⟨some (.int (S.kept)), S, trivial, con_X0_kept S , h⟩
  · exact h.elim
def ET.rowOf (S : ET) (i : Int32) : Int32 := if ¬ i < 0 ∧ i < S.kept then (S.all - 1 - i) % 12 else -1
def cod_X0_rowOf : List (Nat × Op ET) := [(0, O_iload 1 1), (1, O_if_lt 26), (4, O_iload 1 1), (5, O_aload 0 1), (6, O_callV 0 0 (fun S => S) (fun _ S' => S') sp_X0_kept), (9, O_icmp_ge 26), (12, O_aload 0 1), (13, O_getf eW 0 4), (16, O_int 1 1), (17, O_isub), (18, O_iload 1 1), (19, O_isub), (20, O_int 12 2), (22, O_irem), (23, O_goto 27), (26, O_int (-1) 1), (27, O_iret)]
abbrev cut_X0_rowOf : List Nat := []
set_option maxRecDepth 100000 in
theorem okc_X0_rowOf {E : En} (F : Fx E RX0 cX0_rowOf 2 2) (G : Fr E (some .int)) : CodOk E eW cod_X0_rowOf := by
  unfold CodOk cod_X0_rowOf
  refine List.forall_mem_cons.mpr ⟨ok_iload_n F dX0_rowOf_0 rfl (by decide), ?_⟩
  refine List.forall_mem_cons.mpr ⟨ok_if_lt F dX0_rowOf_1 (by decide) (by decide) (by decide), ?_⟩
  refine List.forall_mem_cons.mpr ⟨ok_iload_n F dX0_rowOf_4 rfl (by decide), ?_⟩
  refine List.forall_mem_cons.mpr ⟨ok_aload_n F dX0_rowOf_5 rfl (by decide), ?_⟩
  refine List.forall_mem_cons.mpr ⟨ok_callV F spok_X0_kept (ln_id eW) rcv_eW (by decide +kernel) (by decide) dX0_rowOf_6 (by decide), ?_⟩
  refine List.forall_mem_cons.mpr ⟨ok_icmp_ge F dX0_rowOf_9 (by decide) (by decide) (by decide), ?_⟩
  refine List.forall_mem_cons.mpr ⟨ok_aload_n F dX0_rowOf_12 rfl (by decide), ?_⟩
  refine List.forall_mem_cons.mpr ⟨ok_getf F flX0_30 dX0_rowOf_13 (by decide), ?_⟩
  refine List.forall_mem_cons.mpr ⟨ok_iconst F dX0_rowOf_16 (by decide) (by decide), ?_⟩
  refine List.forall_mem_cons.mpr ⟨ok_isub F dX0_rowOf_17 (by decide), ?_⟩
  refine List.forall_mem_cons.mpr ⟨ok_iload_n F dX0_rowOf_18 rfl (by decide), ?_⟩
  refine List.forall_mem_cons.mpr ⟨ok_isub F dX0_rowOf_19 (by decide), ?_⟩
  refine List.forall_mem_cons.mpr ⟨ok_bipush F dX0_rowOf_20 (by decide) (by decide), ?_⟩
  refine List.forall_mem_cons.mpr ⟨ok_irem F dX0_rowOf_22 (by decide), ?_⟩
  refine List.forall_mem_cons.mpr ⟨ok_goto F dX0_rowOf_23 (by decide) (by decide) (by decide), ?_⟩
  refine List.forall_mem_cons.mpr ⟨ok_iconst F dX0_rowOf_26 (by decide) (by decide), ?_⟩
  refine List.forall_mem_cons.mpr ⟨ok_iret F G dX0_rowOf_27 (by decide), ?_⟩
  exact fun _ h => absurd h List.not_mem_nil
set_option maxRecDepth 100000 in
theorem w_X0_rowOf : (∀ (K : Kt ET) (n : Nat) (L : xL) (st : List Value) (S : ET), nx cod_X0_rowOf cut_X0_rowOf K (n + 1) 0 L st S = (O_iload 1 1) (nx cod_X0_rowOf cut_X0_rowOf K n) 0 L st S) ∧
  (∀ (K : Kt ET) (n : Nat) (L : xL) (st : List Value) (S : ET), nx cod_X0_rowOf cut_X0_rowOf K (n + 1) 1 L st S = (O_if_lt 26) (nx cod_X0_rowOf cut_X0_rowOf K n) 1 L st S) ∧
  (∀ (K : Kt ET) (n : Nat) (L : xL) (st : List Value) (S : ET), nx cod_X0_rowOf cut_X0_rowOf K (n + 1) 4 L st S = (O_iload 1 1) (nx cod_X0_rowOf cut_X0_rowOf K n) 4 L st S) ∧
  (∀ (K : Kt ET) (n : Nat) (L : xL) (st : List Value) (S : ET), nx cod_X0_rowOf cut_X0_rowOf K (n + 1) 5 L st S = (O_aload 0 1) (nx cod_X0_rowOf cut_X0_rowOf K n) 5 L st S) ∧
  (∀ (K : Kt ET) (n : Nat) (L : xL) (st : List Value) (S : ET), nx cod_X0_rowOf cut_X0_rowOf K (n + 1) 6 L st S = (O_callV 0 0 (fun S => S) (fun _ S' => S') sp_X0_kept) (nx cod_X0_rowOf cut_X0_rowOf K n) 6 L st S) ∧
  (∀ (K : Kt ET) (n : Nat) (L : xL) (st : List Value) (S : ET), nx cod_X0_rowOf cut_X0_rowOf K (n + 1) 9 L st S = (O_icmp_ge 26) (nx cod_X0_rowOf cut_X0_rowOf K n) 9 L st S) ∧
  (∀ (K : Kt ET) (n : Nat) (L : xL) (st : List Value) (S : ET), nx cod_X0_rowOf cut_X0_rowOf K (n + 1) 12 L st S = (O_aload 0 1) (nx cod_X0_rowOf cut_X0_rowOf K n) 12 L st S) ∧
  (∀ (K : Kt ET) (n : Nat) (L : xL) (st : List Value) (S : ET), nx cod_X0_rowOf cut_X0_rowOf K (n + 1) 13 L st S = (O_getf eW 0 4) (nx cod_X0_rowOf cut_X0_rowOf K n) 13 L st S) ∧
  (∀ (K : Kt ET) (n : Nat) (L : xL) (st : List Value) (S : ET), nx cod_X0_rowOf cut_X0_rowOf K (n + 1) 16 L st S = (O_int 1 1) (nx cod_X0_rowOf cut_X0_rowOf K n) 16 L st S) ∧
  (∀ (K : Kt ET) (n : Nat) (L : xL) (st : List Value) (S : ET), nx cod_X0_rowOf cut_X0_rowOf K (n + 1) 17 L st S = (O_isub) (nx cod_X0_rowOf cut_X0_rowOf K n) 17 L st S) ∧
  (∀ (K : Kt ET) (n : Nat) (L : xL) (st : List Value) (S : ET), nx cod_X0_rowOf cut_X0_rowOf K (n + 1) 18 L st S = (O_iload 1 1) (nx cod_X0_rowOf cut_X0_rowOf K n) 18 L st S) ∧
  (∀ (K : Kt ET) (n : Nat) (L : xL) (st : List Value) (S : ET), nx cod_X0_rowOf cut_X0_rowOf K (n + 1) 19 L st S = (O_isub) (nx cod_X0_rowOf cut_X0_rowOf K n) 19 L st S) ∧
  (∀ (K : Kt ET) (n : Nat) (L : xL) (st : List Value) (S : ET), nx cod_X0_rowOf cut_X0_rowOf K (n + 1) 20 L st S = (O_int 12 2) (nx cod_X0_rowOf cut_X0_rowOf K n) 20 L st S) ∧
  (∀ (K : Kt ET) (n : Nat) (L : xL) (st : List Value) (S : ET), nx cod_X0_rowOf cut_X0_rowOf K (n + 1) 22 L st S = (O_irem) (nx cod_X0_rowOf cut_X0_rowOf K n) 22 L st S) ∧
  (∀ (K : Kt ET) (n : Nat) (L : xL) (st : List Value) (S : ET), nx cod_X0_rowOf cut_X0_rowOf K (n + 1) 23 L st S = (O_goto 27) (nx cod_X0_rowOf cut_X0_rowOf K n) 23 L st S) ∧
  (∀ (K : Kt ET) (n : Nat) (L : xL) (st : List Value) (S : ET), nx cod_X0_rowOf cut_X0_rowOf K (n + 1) 26 L st S = (O_int (-1) 1) (nx cod_X0_rowOf cut_X0_rowOf K n) 26 L st S) ∧
  (∀ (K : Kt ET) (n : Nat) (L : xL) (st : List Value) (S : ET), nx cod_X0_rowOf cut_X0_rowOf K (n + 1) 27 L st S = (O_iret) (nx cod_X0_rowOf cut_X0_rowOf K n) 27 L st S) ∧
  (∀ (K : Kt ET) (n : Nat) (L : xL) (st : List Value) (S : ET), nx cod_X0_rowOf cut_X0_rowOf K (n + 1) 100000 L st S = K 100000 L st S) := by
  repeat' apply And.intro
  all_goals (intros; rfl)
set_option maxRecDepth 100000 in
theorem mk_X0_rowOf {P P' : ET} {r : Option Value} {p0 : Int32} (body : ∀ E : En, CodOk E eW cod_X0_rowOf → Gd E eW 100000 [] r.toList P' → Gd E eW 0 [some (.ref 0), some (.int p0)] [] P) : Con yX0_rowOf cX0_rowOf 2 (some .int) 2 eW [.ref 0, .int p0] P r P' :=
  Con.of (by decide) rfl rfl (Nat.le_of_ble_eq_true rfl) (fun E F G hr => body E (okc_X0_rowOf F G) hr)
theorem con_X0_rowOf (S : ET) (i : Int32) : Con yX0_rowOf cX0_rowOf 2 (some .int) 2 eW [.ref 0, .int i] S (some (.int (S.rowOf i))) (S) := by
  refine mk_X0_rowOf (fun E C hr => ?_)
  (refine nx_ok C (cuts := cut_X0_rowOf) 1000 _ _ _ _ ?_; simp only [w_X0_rowOf, ops_eq, xst_eq, call_eq, oK_eq, Option.toList_some, Option.toList_none, List.cons_append, List.nil_append, List.length_cons, List.length_nil, true_and, and_true, Nat.reduceAdd, eW_F, eW_A, eW_S, eW_P, ET_gs, se_X0_kept, rem_eq, show ¬ (12 : Int32) = 0 from by decide])
  ((repeat' (with_reducible first | apply And.intro | intro _)) <;> simp_all [ET.rowOf, ET_gs])
def sp_X0_rowOf : Sp ET := fun av S K => match av with
  | [.ref 0, .int i] => K (some (.int (S.rowOf i))) (S)
  | _ => False
theorem se_X0_rowOf (i : Int32) (S : ET) (K : Option Value → ET → Prop) : sp_X0_rowOf [.ref 0, .int i] S K = (K (some (.int (S.rowOf i))) (S)) := rfl
theorem spok_X0_rowOf : SpOk yX0_rowOf cX0_rowOf 2 (some .int) 2 eW sp_X0_rowOf := by
  intro av S K h
  unfold sp_X0_rowOf at h
  split at h
  · rename_i i; exact ⟨some (.int (S.rowOf i)), S, trivial, con_X0_rowOf S i, h⟩
  · exact h.elim
def cod_X0_copyFrom : List (Nat × Op (ET × ET)) := [(0, O_aload 1 1), (1, O_getf eW2 0 0), (4, O_int 0 1), (5, O_aload 0 1), (6, O_getf eW2 0 0), (9, O_int 0 1), (10, O_int 12 2), (12, O_acopy eW2 eW2_sa), (15, O_aload 1 1), (16, O_getf eW2 0 1), (19, O_int 0 1), (20, O_aload 0 1), (21, O_getf eW2 0 1), (24, O_int 0 1), (25, O_int 12 2), (27, O_acopy eW2 eW2_sa), (30, O_aload 1 1), (31, O_getf eW2 0 2), (34, O_int 0 1), (35, O_aload 0 1), (36, O_getf eW2 0 2), (39, O_int 0 1), (40, O_int 12 2), (42, O_acopy eW2 eW2_sa), (45, O_aload 1 1), (46, O_getf eW2 0 3), (49, O_int 0 1), (50, O_aload 0 1), (51, O_getf eW2 0 3), (54, O_int 0 1), (55, O_int 8 2), (57, O_acopy eW2 eW2_sa), (60, O_aload 0 1), (61, O_aload 1 1), (62, O_getf eW2 0 4), (65, O_puti eW2_p0_4), (68, O_vret)]
abbrev cut_X0_copyFrom : List Nat := []
set_option maxRecDepth 100000 in
theorem okc_X0_copyFrom {E : En} (F : Fx E RX0 cX0_copyFrom 2 1) (G : Fr E none) : CodOk E eW2 cod_X0_copyFrom := by
  unfold CodOk cod_X0_copyFrom
  refine List.forall_mem_cons.mpr ⟨ok_aload_n F dX0_copyFrom_0 rfl (by decide), ?_⟩
  refine List.forall_mem_cons.mpr ⟨ok_getf F flX0_11 dX0_copyFrom_1 (by decide), ?_⟩
  refine List.forall_mem_cons.mpr ⟨ok_iconst F dX0_copyFrom_4 (by decide) (by decide), ?_⟩
  refine List.forall_mem_cons.mpr ⟨ok_aload_n F dX0_copyFrom_5 rfl (by decide), ?_⟩
  refine List.forall_mem_cons.mpr ⟨ok_getf F flX0_11 dX0_copyFrom_6 (by decide), ?_⟩
  refine List.forall_mem_cons.mpr ⟨ok_iconst F dX0_copyFrom_9 (by decide) (by decide), ?_⟩
  refine List.forall_mem_cons.mpr ⟨ok_bipush F dX0_copyFrom_10 (by decide) (by decide), ?_⟩
  refine List.forall_mem_cons.mpr ⟨ok_acopy F eW2_sar (by decide +kernel) (by decide) dX0_copyFrom_12 (by decide), ?_⟩
  refine List.forall_mem_cons.mpr ⟨ok_aload_n F dX0_copyFrom_15 rfl (by decide), ?_⟩
  refine List.forall_mem_cons.mpr ⟨ok_getf F flX0_15 dX0_copyFrom_16 (by decide), ?_⟩
  refine List.forall_mem_cons.mpr ⟨ok_iconst F dX0_copyFrom_19 (by decide) (by decide), ?_⟩
  refine List.forall_mem_cons.mpr ⟨ok_aload_n F dX0_copyFrom_20 rfl (by decide), ?_⟩
  refine List.forall_mem_cons.mpr ⟨ok_getf F flX0_15 dX0_copyFrom_21 (by decide), ?_⟩
  refine List.forall_mem_cons.mpr ⟨ok_iconst F dX0_copyFrom_24 (by decide) (by decide), ?_⟩
  refine List.forall_mem_cons.mpr ⟨ok_bipush F dX0_copyFrom_25 (by decide) (by decide), ?_⟩
  refine List.forall_mem_cons.mpr ⟨ok_acopy F eW2_sar (by decide +kernel) (by decide) dX0_copyFrom_27 (by decide), ?_⟩
  refine List.forall_mem_cons.mpr ⟨ok_aload_n F dX0_copyFrom_30 rfl (by decide), ?_⟩
  refine List.forall_mem_cons.mpr ⟨ok_getf F flX0_18 dX0_copyFrom_31 (by decide), ?_⟩
  refine List.forall_mem_cons.mpr ⟨ok_iconst F dX0_copyFrom_34 (by decide) (by decide), ?_⟩
  refine List.forall_mem_cons.mpr ⟨ok_aload_n F dX0_copyFrom_35 rfl (by decide), ?_⟩
  refine List.forall_mem_cons.mpr ⟨ok_getf F flX0_18 dX0_copyFrom_36 (by decide), ?_⟩
  refine List.forall_mem_cons.mpr ⟨ok_iconst F dX0_copyFrom_39 (by decide) (by decide), ?_⟩
  refine List.forall_mem_cons.mpr ⟨ok_bipush F dX0_copyFrom_40 (by decide) (by decide), ?_⟩
  refine List.forall_mem_cons.mpr ⟨ok_acopy F eW2_sar (by decide +kernel) (by decide) dX0_copyFrom_42 (by decide), ?_⟩
  refine List.forall_mem_cons.mpr ⟨ok_aload_n F dX0_copyFrom_45 rfl (by decide), ?_⟩
  refine List.forall_mem_cons.mpr ⟨ok_getf F flX0_21 dX0_copyFrom_46 (by decide), ?_⟩
  refine List.forall_mem_cons.mpr ⟨ok_iconst F dX0_copyFrom_49 (by decide) (by decide), ?_⟩
  refine List.forall_mem_cons.mpr ⟨ok_aload_n F dX0_copyFrom_50 rfl (by decide), ?_⟩
  refine List.forall_mem_cons.mpr ⟨ok_getf F flX0_21 dX0_copyFrom_51 (by decide), ?_⟩
  refine List.forall_mem_cons.mpr ⟨ok_iconst F dX0_copyFrom_54 (by decide) (by decide), ?_⟩
  refine List.forall_mem_cons.mpr ⟨ok_bipush F dX0_copyFrom_55 (by decide) (by decide), ?_⟩
  refine List.forall_mem_cons.mpr ⟨ok_acopy F eW2_sar (by decide +kernel) (by decide) dX0_copyFrom_57 (by decide), ?_⟩
  refine List.forall_mem_cons.mpr ⟨ok_aload_n F dX0_copyFrom_60 rfl (by decide), ?_⟩
  refine List.forall_mem_cons.mpr ⟨ok_aload_n F dX0_copyFrom_61 rfl (by decide), ?_⟩
  refine List.forall_mem_cons.mpr ⟨ok_getf F flX0_30 dX0_copyFrom_62 (by decide), ?_⟩
  refine List.forall_mem_cons.mpr ⟨ok_puti F eW2_p0_4_ok (fun _ _ _ h => by cases h; rfl) rfl flX0_30 dX0_copyFrom_65 (by decide), ?_⟩
  refine List.forall_mem_cons.mpr ⟨ok_vret F G dX0_copyFrom_68 (by decide), ?_⟩
  exact fun _ h => absurd h List.not_mem_nil
set_option maxRecDepth 100000 in
theorem w_X0_copyFrom : (∀ (K : Kt (ET × ET)) (n : Nat) (L : xL) (st : List Value) (S : (ET × ET)), nx cod_X0_copyFrom cut_X0_copyFrom K (n + 1) 0 L st S = (O_aload 1 1) (nx cod_X0_copyFrom cut_X0_copyFrom K n) 0 L st S) ∧
  (∀ (K : Kt (ET × ET)) (n : Nat) (L : xL) (st : List Value) (S : (ET × ET)), nx cod_X0_copyFrom cut_X0_copyFrom K (n + 1) 1 L st S = (O_getf eW2 0 0) (nx cod_X0_copyFrom cut_X0_copyFrom K n) 1 L st S) ∧
  (∀ (K : Kt (ET × ET)) (n : Nat) (L : xL) (st : List Value) (S : (ET × ET)), nx cod_X0_copyFrom cut_X0_copyFrom K (n + 1) 4 L st S = (O_int 0 1) (nx cod_X0_copyFrom cut_X0_copyFrom K n) 4 L st S) ∧
  (∀ (K : Kt (ET × ET)) (n : Nat) (L : xL) (st : List Value) (S : (ET × ET)), nx cod_X0_copyFrom cut_X0_copyFrom K (n + 1) 5 L st S = (O_aload 0 1) (nx cod_X0_copyFrom cut_X0_copyFrom K n) 5 L st S) ∧
  (∀ (K : Kt (ET × ET)) (n : Nat) (L : xL) (st : List Value) (S : (ET × ET)), nx cod_X0_copyFrom cut_X0_copyFrom K (n + 1) 6 L st S = (O_getf eW2 0 0) (nx cod_X0_copyFrom cut_X0_copyFrom K n) 6 L st S) ∧
  (∀ (K : Kt (ET × ET)) (n : Nat) (L : xL) (st : List Value) (S : (ET × ET)), nx cod_X0_copyFrom cut_X0_copyFrom K (n + 1) 9 L st S = (O_int 0 1) (nx cod_X0_copyFrom cut_X0_copyFrom K n) 9 L st S) ∧
  (∀ (K : Kt (ET × ET)) (n : Nat) (L : xL) (st : List Value) (S : (ET × ET)), nx cod_X0_copyFrom cut_X0_copyFrom K (n + 1) 10 L st S = (O_int 12 2) (nx cod_X0_copyFrom cut_X0_copyFrom K n) 10 L st S) ∧
  (∀ (K : Kt (ET × ET)) (n : Nat) (L : xL) (st : List Value) (S : (ET × ET)), nx cod_X0_copyFrom cut_X0_copyFrom K (n + 1) 12 L st S = (O_acopy eW2 eW2_sa) (nx cod_X0_copyFrom cut_X0_copyFrom K n) 12 L st S) ∧
  (∀ (K : Kt (ET × ET)) (n : Nat) (L : xL) (st : List Value) (S : (ET × ET)), nx cod_X0_copyFrom cut_X0_copyFrom K (n + 1) 15 L st S = (O_aload 1 1) (nx cod_X0_copyFrom cut_X0_copyFrom K n) 15 L st S) ∧
  (∀ (K : Kt (ET × ET)) (n : Nat) (L : xL) (st : List Value) (S : (ET × ET)), nx cod_X0_copyFrom cut_X0_copyFrom K (n + 1) 16 L st S = (O_getf eW2 0 1) (nx cod_X0_copyFrom cut_X0_copyFrom K n) 16 L st S) ∧
  (∀ (K : Kt (ET × ET)) (n : Nat) (L : xL) (st : List Value) (S : (ET × ET)), nx cod_X0_copyFrom cut_X0_copyFrom K (n + 1) 19 L st S = (O_int 0 1) (nx cod_X0_copyFrom cut_X0_copyFrom K n) 19 L st S) ∧
  (∀ (K : Kt (ET × ET)) (n : Nat) (L : xL) (st : List Value) (S : (ET × ET)), nx cod_X0_copyFrom cut_X0_copyFrom K (n + 1) 20 L st S = (O_aload 0 1) (nx cod_X0_copyFrom cut_X0_copyFrom K n) 20 L st S) ∧
  (∀ (K : Kt (ET × ET)) (n : Nat) (L : xL) (st : List Value) (S : (ET × ET)), nx cod_X0_copyFrom cut_X0_copyFrom K (n + 1) 21 L st S = (O_getf eW2 0 1) (nx cod_X0_copyFrom cut_X0_copyFrom K n) 21 L st S) ∧
  (∀ (K : Kt (ET × ET)) (n : Nat) (L : xL) (st : List Value) (S : (ET × ET)), nx cod_X0_copyFrom cut_X0_copyFrom K (n + 1) 24 L st S = (O_int 0 1) (nx cod_X0_copyFrom cut_X0_copyFrom K n) 24 L st S) ∧
  (∀ (K : Kt (ET × ET)) (n : Nat) (L : xL) (st : List Value) (S : (ET × ET)), nx cod_X0_copyFrom cut_X0_copyFrom K (n + 1) 25 L st S = (O_int 12 2) (nx cod_X0_copyFrom cut_X0_copyFrom K n) 25 L st S) ∧
  (∀ (K : Kt (ET × ET)) (n : Nat) (L : xL) (st : List Value) (S : (ET × ET)), nx cod_X0_copyFrom cut_X0_copyFrom K (n + 1) 27 L st S = (O_acopy eW2 eW2_sa) (nx cod_X0_copyFrom cut_X0_copyFrom K n) 27 L st S) ∧
  (∀ (K : Kt (ET × ET)) (n : Nat) (L : xL) (st : List Value) (S : (ET × ET)), nx cod_X0_copyFrom cut_X0_copyFrom K (n + 1) 30 L st S = (O_aload 1 1) (nx cod_X0_copyFrom cut_X0_copyFrom K n) 30 L st S) ∧
  (∀ (K : Kt (ET × ET)) (n : Nat) (L : xL) (st : List Value) (S : (ET × ET)), nx cod_X0_copyFrom cut_X0_copyFrom K (n + 1) 31 L st S = (O_getf eW2 0 2) (nx cod_X0_copyFrom cut_X0_copyFrom K n) 31 L st S) ∧
  (∀ (K : Kt (ET × ET)) (n : Nat) (L : xL) (st : List Value) (S : (ET × ET)), nx cod_X0_copyFrom cut_X0_copyFrom K (n + 1) 34 L st S = (O_int 0 1) (nx cod_X0_copyFrom cut_X0_copyFrom K n) 34 L st S) ∧
  (∀ (K : Kt (ET × ET)) (n : Nat) (L : xL) (st : List Value) (S : (ET × ET)), nx cod_X0_copyFrom cut_X0_copyFrom K (n + 1) 35 L st S = (O_aload 0 1) (nx cod_X0_copyFrom cut_X0_copyFrom K n) 35 L st S) ∧
  (∀ (K : Kt (ET × ET)) (n : Nat) (L : xL) (st : List Value) (S : (ET × ET)), nx cod_X0_copyFrom cut_X0_copyFrom K (n + 1) 36 L st S = (O_getf eW2 0 2) (nx cod_X0_copyFrom cut_X0_copyFrom K n) 36 L st S) ∧
  (∀ (K : Kt (ET × ET)) (n : Nat) (L : xL) (st : List Value) (S : (ET × ET)), nx cod_X0_copyFrom cut_X0_copyFrom K (n + 1) 39 L st S = (O_int 0 1) (nx cod_X0_copyFrom cut_X0_copyFrom K n) 39 L st S) ∧
  (∀ (K : Kt (ET × ET)) (n : Nat) (L : xL) (st : List Value) (S : (ET × ET)), nx cod_X0_copyFrom cut_X0_copyFrom K (n + 1) 40 L st S = (O_int 12 2) (nx cod_X0_copyFrom cut_X0_copyFrom K n) 40 L st S) ∧
  (∀ (K : Kt (ET × ET)) (n : Nat) (L : xL) (st : List Value) (S : (ET × ET)), nx cod_X0_copyFrom cut_X0_copyFrom K (n + 1) 42 L st S = (O_acopy eW2 eW2_sa) (nx cod_X0_copyFrom cut_X0_copyFrom K n) 42 L st S) ∧
  (∀ (K : Kt (ET × ET)) (n : Nat) (L : xL) (st : List Value) (S : (ET × ET)), nx cod_X0_copyFrom cut_X0_copyFrom K (n + 1) 45 L st S = (O_aload 1 1) (nx cod_X0_copyFrom cut_X0_copyFrom K n) 45 L st S) ∧
  (∀ (K : Kt (ET × ET)) (n : Nat) (L : xL) (st : List Value) (S : (ET × ET)), nx cod_X0_copyFrom cut_X0_copyFrom K (n + 1) 46 L st S = (O_getf eW2 0 3) (nx cod_X0_copyFrom cut_X0_copyFrom K n) 46 L st S) ∧
  (∀ (K : Kt (ET × ET)) (n : Nat) (L : xL) (st : List Value) (S : (ET × ET)), nx cod_X0_copyFrom cut_X0_copyFrom K (n + 1) 49 L st S = (O_int 0 1) (nx cod_X0_copyFrom cut_X0_copyFrom K n) 49 L st S) ∧
  (∀ (K : Kt (ET × ET)) (n : Nat) (L : xL) (st : List Value) (S : (ET × ET)), nx cod_X0_copyFrom cut_X0_copyFrom K (n + 1) 50 L st S = (O_aload 0 1) (nx cod_X0_copyFrom cut_X0_copyFrom K n) 50 L st S) ∧
  (∀ (K : Kt (ET × ET)) (n : Nat) (L : xL) (st : List Value) (S : (ET × ET)), nx cod_X0_copyFrom cut_X0_copyFrom K (n + 1) 51 L st S = (O_getf eW2 0 3) (nx cod_X0_copyFrom cut_X0_copyFrom K n) 51 L st S) ∧
  (∀ (K : Kt (ET × ET)) (n : Nat) (L : xL) (st : List Value) (S : (ET × ET)), nx cod_X0_copyFrom cut_X0_copyFrom K (n + 1) 54 L st S = (O_int 0 1) (nx cod_X0_copyFrom cut_X0_copyFrom K n) 54 L st S) ∧
  (∀ (K : Kt (ET × ET)) (n : Nat) (L : xL) (st : List Value) (S : (ET × ET)), nx cod_X0_copyFrom cut_X0_copyFrom K (n + 1) 55 L st S = (O_int 8 2) (nx cod_X0_copyFrom cut_X0_copyFrom K n) 55 L st S) ∧
  (∀ (K : Kt (ET × ET)) (n : Nat) (L : xL) (st : List Value) (S : (ET × ET)), nx cod_X0_copyFrom cut_X0_copyFrom K (n + 1) 57 L st S = (O_acopy eW2 eW2_sa) (nx cod_X0_copyFrom cut_X0_copyFrom K n) 57 L st S) ∧
  (∀ (K : Kt (ET × ET)) (n : Nat) (L : xL) (st : List Value) (S : (ET × ET)), nx cod_X0_copyFrom cut_X0_copyFrom K (n + 1) 60 L st S = (O_aload 0 1) (nx cod_X0_copyFrom cut_X0_copyFrom K n) 60 L st S) ∧
  (∀ (K : Kt (ET × ET)) (n : Nat) (L : xL) (st : List Value) (S : (ET × ET)), nx cod_X0_copyFrom cut_X0_copyFrom K (n + 1) 61 L st S = (O_aload 1 1) (nx cod_X0_copyFrom cut_X0_copyFrom K n) 61 L st S) ∧
  (∀ (K : Kt (ET × ET)) (n : Nat) (L : xL) (st : List Value) (S : (ET × ET)), nx cod_X0_copyFrom cut_X0_copyFrom K (n + 1) 62 L st S = (O_getf eW2 0 4) (nx cod_X0_copyFrom cut_X0_copyFrom K n) 62 L st S) ∧
  (∀ (K : Kt (ET × ET)) (n : Nat) (L : xL) (st : List Value) (S : (ET × ET)), nx cod_X0_copyFrom cut_X0_copyFrom K (n + 1) 65 L st S = (O_puti eW2_p0_4) (nx cod_X0_copyFrom cut_X0_copyFrom K n) 65 L st S) ∧
  (∀ (K : Kt (ET × ET)) (n : Nat) (L : xL) (st : List Value) (S : (ET × ET)), nx cod_X0_copyFrom cut_X0_copyFrom K (n + 1) 68 L st S = (O_vret) (nx cod_X0_copyFrom cut_X0_copyFrom K n) 68 L st S) ∧
  (∀ (K : Kt (ET × ET)) (n : Nat) (L : xL) (st : List Value) (S : (ET × ET)), nx cod_X0_copyFrom cut_X0_copyFrom K (n + 1) 100000 L st S = K 100000 L st S) := by
  repeat' apply And.intro
  all_goals (intros; rfl)
set_option maxRecDepth 100000 in
theorem mk_X0_copyFrom {P P' : (ET × ET)} {r : Option Value}  (body : ∀ E : En, CodOk E eW2 cod_X0_copyFrom → Gd E eW2 100000 [] r.toList P' → Gd E eW2 0 [some (.ref 0), some (.ref 5)] [] P) : Con yX0_copyFrom cX0_copyFrom 2 none 1 eW2 [.ref 0, .ref 5] P r P' :=
  Con.of (by decide) rfl rfl (Nat.le_of_ble_eq_true rfl) (fun E F G hr => body E (okc_X0_copyFrom F G) hr)
theorem con_X0_copyFrom (S : (ET × ET))  : Con yX0_copyFrom cX0_copyFrom 2 none 1 eW2 [.ref 0, .ref 5] S (none) ((S.2, S.2)) := by
  refine mk_X0_copyFrom (fun E C hr => ?_)
  (refine nx_ok C (cuts := cut_X0_copyFrom) 1000 _ _ _ _ ?_; simp only [w_X0_copyFrom, ops_eq, xst_eq, call_eq, oK_eq, Option.toList_some, Option.toList_none, List.cons_append, List.nil_append, List.length_cons, List.length_nil, true_and, and_true, Nat.reduceAdd, eW2_F, eW2_A, eW2_S, eW2_P, acopy_eq, O_callC_eq, ET_gs, fits_int, cl_eq])
  ((repeat' (with_reducible first | apply And.intro | intro _)) <;> simp_all [ET_gs])
  exact hr
def sp_X0_copyFrom : Sp (ET × ET) := fun av S K => match av with
  | [.ref 0, .ref 5] => K (none) ((S.2, S.2))
  | _ => False
theorem se_X0_copyFrom  (S : (ET × ET)) (K : Option Value → (ET × ET) → Prop) : sp_X0_copyFrom [.ref 0, .ref 5] S K = (K (none) ((S.2, S.2))) := rfl
theorem spok_X0_copyFrom : SpOk yX0_copyFrom cX0_copyFrom 2 none 1 eW2 sp_X0_copyFrom := by
  intro av S K h
  unfold sp_X0_copyFrom at h
  split at h
  · exact ⟨none, (S.2, S.2), trivial, con_X0_copyFrom S , h⟩
  · exact h.elim
def inR (v a b : Int32) : Bool := decide (¬ v < a ∧ ¬ b < v)
def cod_X6_within : List (Nat × Op Unit) := [(0, O_iload 0 1), (1, O_iload 1 1), (2, O_icmp_lt 14), (5, O_iload 0 1), (6, O_iload 2 1), (7, O_icmp_gt 14), (10, O_int 1 1), (11, O_goto 15), (14, O_int 0 1), (15, O_zret)]
abbrev cut_X6_within : List Nat := []
set_option maxRecDepth 100000 in
theorem okc_X6_within {E : En} (F : Fx E RX6 cX6_within 3 0) (G : Fr E (some .boolean)) : CodOk E toU cod_X6_within := by
  unfold CodOk cod_X6_within
  refine List.forall_mem_cons.mpr ⟨ok_iload_n F dX6_within_0 rfl (by decide), ?_⟩
  refine List.forall_mem_cons.mpr ⟨ok_iload_n F dX6_within_1 rfl (by decide), ?_⟩
  refine List.forall_mem_cons.mpr ⟨ok_icmp_lt F dX6_within_2 (by decide) (by decide) (by decide), ?_⟩
  refine List.forall_mem_cons.mpr ⟨ok_iload_n F dX6_within_5 rfl (by decide), ?_⟩
  refine List.forall_mem_cons.mpr ⟨ok_iload_n F dX6_within_6 rfl (by decide), ?_⟩
  refine List.forall_mem_cons.mpr ⟨ok_icmp_gt F dX6_within_7 (by decide) (by decide) (by decide), ?_⟩
  refine List.forall_mem_cons.mpr ⟨ok_iconst F dX6_within_10 (by decide) (by decide), ?_⟩
  refine List.forall_mem_cons.mpr ⟨ok_goto F dX6_within_11 (by decide) (by decide) (by decide), ?_⟩
  refine List.forall_mem_cons.mpr ⟨ok_iconst F dX6_within_14 (by decide) (by decide), ?_⟩
  refine List.forall_mem_cons.mpr ⟨ok_zret F G dX6_within_15 (by decide), ?_⟩
  exact fun _ h => absurd h List.not_mem_nil
set_option maxRecDepth 100000 in
theorem w_X6_within : (∀ (K : Kt Unit) (n : Nat) (L : xL) (st : List Value) (S : Unit), nx cod_X6_within cut_X6_within K (n + 1) 0 L st S = (O_iload 0 1) (nx cod_X6_within cut_X6_within K n) 0 L st S) ∧
  (∀ (K : Kt Unit) (n : Nat) (L : xL) (st : List Value) (S : Unit), nx cod_X6_within cut_X6_within K (n + 1) 1 L st S = (O_iload 1 1) (nx cod_X6_within cut_X6_within K n) 1 L st S) ∧
  (∀ (K : Kt Unit) (n : Nat) (L : xL) (st : List Value) (S : Unit), nx cod_X6_within cut_X6_within K (n + 1) 2 L st S = (O_icmp_lt 14) (nx cod_X6_within cut_X6_within K n) 2 L st S) ∧
  (∀ (K : Kt Unit) (n : Nat) (L : xL) (st : List Value) (S : Unit), nx cod_X6_within cut_X6_within K (n + 1) 5 L st S = (O_iload 0 1) (nx cod_X6_within cut_X6_within K n) 5 L st S) ∧
  (∀ (K : Kt Unit) (n : Nat) (L : xL) (st : List Value) (S : Unit), nx cod_X6_within cut_X6_within K (n + 1) 6 L st S = (O_iload 2 1) (nx cod_X6_within cut_X6_within K n) 6 L st S) ∧
  (∀ (K : Kt Unit) (n : Nat) (L : xL) (st : List Value) (S : Unit), nx cod_X6_within cut_X6_within K (n + 1) 7 L st S = (O_icmp_gt 14) (nx cod_X6_within cut_X6_within K n) 7 L st S) ∧
  (∀ (K : Kt Unit) (n : Nat) (L : xL) (st : List Value) (S : Unit), nx cod_X6_within cut_X6_within K (n + 1) 10 L st S = (O_int 1 1) (nx cod_X6_within cut_X6_within K n) 10 L st S) ∧
  (∀ (K : Kt Unit) (n : Nat) (L : xL) (st : List Value) (S : Unit), nx cod_X6_within cut_X6_within K (n + 1) 11 L st S = (O_goto 15) (nx cod_X6_within cut_X6_within K n) 11 L st S) ∧
  (∀ (K : Kt Unit) (n : Nat) (L : xL) (st : List Value) (S : Unit), nx cod_X6_within cut_X6_within K (n + 1) 14 L st S = (O_int 0 1) (nx cod_X6_within cut_X6_within K n) 14 L st S) ∧
  (∀ (K : Kt Unit) (n : Nat) (L : xL) (st : List Value) (S : Unit), nx cod_X6_within cut_X6_within K (n + 1) 15 L st S = (O_zret) (nx cod_X6_within cut_X6_within K n) 15 L st S) ∧
  (∀ (K : Kt Unit) (n : Nat) (L : xL) (st : List Value) (S : Unit), nx cod_X6_within cut_X6_within K (n + 1) 100000 L st S = K 100000 L st S) := by
  repeat' apply And.intro
  all_goals (intros; rfl)
set_option maxRecDepth 100000 in
theorem mk_X6_within {P P' : Unit} {r : Option Value} {p0 : Int32} {p1 : Int32} {p2 : Int32} (body : ∀ E : En, CodOk E toU cod_X6_within → Gd E toU 100000 [] r.toList P' → Gd E toU 0 [some (.int p0), some (.int p1), some (.int p2)] [] P) : Con yX6_within cX6_within 3 (some .boolean) 0 toU [.int p0, .int p1, .int p2] P r P' :=
  Con.of (by decide) rfl rfl (Nat.le_of_ble_eq_true rfl) (fun E F G hr => body E (okc_X6_within F G) hr)
set_option maxRecDepth 10000 in
theorem con_X6_within (S : Unit) (v : Int32) (a : Int32) (b : Int32) : Con yX6_within cX6_within 3 (some .boolean) 0 toU [.int v, .int a, .int b] S (some (.int (bI (inR v a b)))) (S) := by
  refine mk_X6_within (fun E C hr => ?_)
  (refine nx_ok C (cuts := cut_X6_within) 1000 _ _ _ _ ?_; simp only [w_X6_within, ops_eq, xst_eq, call_eq, oK_eq, Option.toList_some, Option.toList_none, List.cons_append, List.nil_append, List.length_cons, List.length_nil, true_and, and_true, Nat.reduceAdd, call_eq, bI_eq])
  ((repeat' (with_reducible first | apply And.intro | intro _)) <;> simp_all [inR, bI])
def sp_X6_within : Sp Unit := fun av S K => match av with
  | [.int v, .int a, .int b] => K (some (.int (bI (inR v a b)))) (S)
  | _ => False
theorem se_X6_within (v : Int32) (a : Int32) (b : Int32) (S : Unit) (K : Option Value → Unit → Prop) : sp_X6_within [.int v, .int a, .int b] S K = (K (some (.int (bI (inR v a b)))) (S)) := rfl
theorem spok_X6_within : SpOk yX6_within cX6_within 3 (some .boolean) 0 toU sp_X6_within := by
  intro av S K h
  unfold sp_X6_within at h
  split at h
  · rename_i v a b; exact ⟨some (.int (bI (inR v a b))), S, trivial, con_X6_within S v a b, h⟩
  · exact h.elim
def hold (v a b : Int32) : Int32 := if a < (if v < b then v else b) then (if v < b then v else b) else a
def cod_X6_hold : List (Nat × Op Unit) := [(0, O_iload 1 1), (1, O_iload 2 1), (2, O_iload 0 1), (3, O_min), (6, O_max), (9, O_iret)]
abbrev cut_X6_hold : List Nat := []
set_option maxRecDepth 100000 in
theorem okc_X6_hold {E : En} (F : Fx E RX6 cX6_hold 3 1) (G : Fr E (some .int)) : CodOk E toU cod_X6_hold := by
  unfold CodOk cod_X6_hold
  refine List.forall_mem_cons.mpr ⟨ok_iload_n F dX6_hold_0 rfl (by decide), ?_⟩
  refine List.forall_mem_cons.mpr ⟨ok_iload_n F dX6_hold_1 rfl (by decide), ?_⟩
  refine List.forall_mem_cons.mpr ⟨ok_iload_n F dX6_hold_2 rfl (by decide), ?_⟩
  refine List.forall_mem_cons.mpr ⟨ok_min F (by decide +kernel) (by decide) dX6_hold_3 (by decide), ?_⟩
  refine List.forall_mem_cons.mpr ⟨ok_max F (by decide +kernel) (by decide) dX6_hold_6 (by decide), ?_⟩
  refine List.forall_mem_cons.mpr ⟨ok_iret F G dX6_hold_9 (by decide), ?_⟩
  exact fun _ h => absurd h List.not_mem_nil
set_option maxRecDepth 100000 in
theorem w_X6_hold : (∀ (K : Kt Unit) (n : Nat) (L : xL) (st : List Value) (S : Unit), nx cod_X6_hold cut_X6_hold K (n + 1) 0 L st S = (O_iload 1 1) (nx cod_X6_hold cut_X6_hold K n) 0 L st S) ∧
  (∀ (K : Kt Unit) (n : Nat) (L : xL) (st : List Value) (S : Unit), nx cod_X6_hold cut_X6_hold K (n + 1) 1 L st S = (O_iload 2 1) (nx cod_X6_hold cut_X6_hold K n) 1 L st S) ∧
  (∀ (K : Kt Unit) (n : Nat) (L : xL) (st : List Value) (S : Unit), nx cod_X6_hold cut_X6_hold K (n + 1) 2 L st S = (O_iload 0 1) (nx cod_X6_hold cut_X6_hold K n) 2 L st S) ∧
  (∀ (K : Kt Unit) (n : Nat) (L : xL) (st : List Value) (S : Unit), nx cod_X6_hold cut_X6_hold K (n + 1) 3 L st S = (O_min) (nx cod_X6_hold cut_X6_hold K n) 3 L st S) ∧
  (∀ (K : Kt Unit) (n : Nat) (L : xL) (st : List Value) (S : Unit), nx cod_X6_hold cut_X6_hold K (n + 1) 6 L st S = (O_max) (nx cod_X6_hold cut_X6_hold K n) 6 L st S) ∧
  (∀ (K : Kt Unit) (n : Nat) (L : xL) (st : List Value) (S : Unit), nx cod_X6_hold cut_X6_hold K (n + 1) 9 L st S = (O_iret) (nx cod_X6_hold cut_X6_hold K n) 9 L st S) ∧
  (∀ (K : Kt Unit) (n : Nat) (L : xL) (st : List Value) (S : Unit), nx cod_X6_hold cut_X6_hold K (n + 1) 100000 L st S = K 100000 L st S) := by
  repeat' apply And.intro
  all_goals (intros; rfl)
set_option maxRecDepth 100000 in
theorem mk_X6_hold {P P' : Unit} {r : Option Value} {p0 : Int32} {p1 : Int32} {p2 : Int32} (body : ∀ E : En, CodOk E toU cod_X6_hold → Gd E toU 100000 [] r.toList P' → Gd E toU 0 [some (.int p0), some (.int p1), some (.int p2)] [] P) : Con yX6_hold cX6_hold 3 (some .int) 1 toU [.int p0, .int p1, .int p2] P r P' :=
  Con.of (by decide) rfl rfl (Nat.le_of_ble_eq_true rfl) (fun E F G hr => body E (okc_X6_hold F G) hr)
set_option maxRecDepth 10000 in
theorem con_X6_hold (S : Unit) (v : Int32) (a : Int32) (b : Int32) : Con yX6_hold cX6_hold 3 (some .int) 1 toU [.int v, .int a, .int b] S (some (.int (hold v a b))) (S) := by
  refine mk_X6_hold (fun E C hr => ?_)
  (refine nx_ok C (cuts := cut_X6_hold) 1000 _ _ _ _ ?_; simp only [w_X6_hold, ops_eq, xst_eq, call_eq, oK_eq, Option.toList_some, Option.toList_none, List.cons_append, List.nil_append, List.length_cons, List.length_nil, true_and, and_true, Nat.reduceAdd, call_eq])
  ((repeat' (with_reducible first | apply And.intro | intro _)) <;> simp_all [hold])
def sp_X6_hold : Sp Unit := fun av S K => match av with
  | [.int v, .int a, .int b] => K (some (.int (hold v a b))) (S)
  | _ => False
theorem se_X6_hold (v : Int32) (a : Int32) (b : Int32) (S : Unit) (K : Option Value → Unit → Prop) : sp_X6_hold [.int v, .int a, .int b] S K = (K (some (.int (hold v a b))) (S)) := rfl
theorem spok_X6_hold : SpOk yX6_hold cX6_hold 3 (some .int) 1 toU sp_X6_hold := by
  intro av S K h
  unfold sp_X6_hold at h
  split at h
  · rename_i v a b; exact ⟨some (.int (hold v a b)), S, trivial, con_X6_hold S v a b, h⟩
  · exact h.elim
