/-! ===== the reference: the calls that tell, continued ===== -/
theorem zof_facts {S : ZT} (h : S.bits) {i : Nat} (hi : i < 8) : (if S.isOpen i = 0 then (0 : Int32) else 1) = S.isOpen i := by
  rcases h i hi with q | q <;> rw [q] <;> rfl
def cod_X7_zoneOf : List (Nat × Op QT) := [(0, O_aload 0 1), (1, O_iload 1 1), (2, O_callV 1 0 (fun S => S) (fun _ S' => S') sp_X7_isZone), (5, O_if_eq 20), (8, O_iload 2 1), (9, O_i2l), (10, O_long 0 1), (11, O_long 3 3), (14, O_callS 3 sp_X7_in), (17, O_if_ne 23), (20, O_int (-1000001) 2), (22, O_iret), (23, O_int 0 1), (24, O_istore 3 1), (25, O_int 0 1), (26, O_istore 4 2), (28, O_iload 4 2), (30, O_aload 0 1), (31, O_getf aW 7 0), (34, O_int 16 2), (36, O_ald aW 0), (37, O_icmp_ge 70), (40, O_iload 3 1), (41, O_aload 0 1), (42, O_getf aW 7 0), (45, O_int 103 2), (47, O_int 3 1), (48, O_iload 4 2), (50, O_imul), (51, O_iadd), (52, O_ald aW 0), (53, O_iload 1 1), (54, O_icmp_ne 61), (57, O_int 1 1), (58, O_goto 62), (61, O_int 0 1), (62, O_iadd), (63, O_istore 3 1), (64, O_iinc 4 1), (67, O_goto 28), (70, O_iload 2 1), (71, O_int 2 1), (72, O_icmp_ge 91), (75, O_aload 0 1), (76, O_getf aW 7 0), (79, O_int 87 2), (81, O_int 2 1), (82, O_iload 1 1), (83, O_imul), (84, O_iadd), (85, O_iload 2 1), (86, O_iadd), (87, O_ald aW 0), (88, O_goto 105), (91, O_iload 2 1), (92, O_int 2 1), (93, O_icmp_ne 104), (96, O_aload 0 1), (97, O_iload 1 1), (98, O_callV 1 0 (fun S => S) (fun _ S' => S') sp_X7_takes), (101, O_goto 105), (104, O_iload 3 1), (105, O_iret)]
abbrev cut_X7_zoneOf : List Nat := [28, 70]
set_option maxRecDepth 100000 in
theorem okc_X7_zoneOf {E : En} (F : Fx E RX7 cX7_zoneOf 5 2) (G : Fr E (some .int)) : CodOk E aW cod_X7_zoneOf := by
  unfold CodOk cod_X7_zoneOf
  refine List.forall_mem_cons.mpr ⟨ok_aload_n F dX7_zoneOf_0 rfl (by decide), ?_⟩
  refine List.forall_mem_cons.mpr ⟨ok_iload_n F dX7_zoneOf_1 rfl (by decide), ?_⟩
  refine List.forall_mem_cons.mpr ⟨ok_callV F spok_X7_isZone (ln_id aW) rcv_aW (by decide +kernel) (by decide) dX7_zoneOf_2 (by decide), ?_⟩
  refine List.forall_mem_cons.mpr ⟨ok_if_eq F dX7_zoneOf_5 (by decide) (by decide) (by decide), ?_⟩
  refine List.forall_mem_cons.mpr ⟨ok_iload_n F dX7_zoneOf_8 rfl (by decide), ?_⟩
  refine List.forall_mem_cons.mpr ⟨ok_i2l F dX7_zoneOf_9 (by decide), ?_⟩
  refine List.forall_mem_cons.mpr ⟨ok_lconst F dX7_zoneOf_10 (by decide) (by decide), ?_⟩
  refine List.forall_mem_cons.mpr ⟨ok_ldc2 F (ix := 146) (wsHas_mem (l := [Jvm.Cond.constantLong RX7 146 3]) (by decide +kernel) (by simp)) dX7_zoneOf_11 (by decide), ?_⟩
  refine List.forall_mem_cons.mpr ⟨ok_callS F spok_X7_in (by decide +kernel) rfl (by decide) dX7_zoneOf_14 (by decide), ?_⟩
  refine List.forall_mem_cons.mpr ⟨ok_if_ne F dX7_zoneOf_17 (by decide) (by decide) (by decide), ?_⟩
  refine List.forall_mem_cons.mpr ⟨ok_ldc F (ix := 62) (wsHas_mem (l := [Jvm.Cond.constant RX7 62 (-1000001)]) (by decide +kernel) (by simp)) dX7_zoneOf_20 (by decide), ?_⟩
  refine List.forall_mem_cons.mpr ⟨ok_iret F G dX7_zoneOf_22 (by decide), ?_⟩
  refine List.forall_mem_cons.mpr ⟨ok_iconst F dX7_zoneOf_23 (by decide) (by decide), ?_⟩
  refine List.forall_mem_cons.mpr ⟨ok_istore_n F dX7_zoneOf_24 rfl (by decide) (by decide), ?_⟩
  refine List.forall_mem_cons.mpr ⟨ok_iconst F dX7_zoneOf_25 (by decide) (by decide), ?_⟩
  refine List.forall_mem_cons.mpr ⟨ok_istore F dX7_zoneOf_26 (by decide) (by decide), ?_⟩
  refine List.forall_mem_cons.mpr ⟨ok_iload F dX7_zoneOf_28 (by decide), ?_⟩
  refine List.forall_mem_cons.mpr ⟨ok_aload_n F dX7_zoneOf_30 rfl (by decide), ?_⟩
  refine List.forall_mem_cons.mpr ⟨ok_getf F flX7_7 dX7_zoneOf_31 (by decide), ?_⟩
  refine List.forall_mem_cons.mpr ⟨ok_bipush F dX7_zoneOf_34 (by decide) (by decide), ?_⟩
  refine List.forall_mem_cons.mpr ⟨ok_iald F dX7_zoneOf_36 (by decide), ?_⟩
  refine List.forall_mem_cons.mpr ⟨ok_icmp_ge F dX7_zoneOf_37 (by decide) (by decide) (by decide), ?_⟩
  refine List.forall_mem_cons.mpr ⟨ok_iload_n F dX7_zoneOf_40 rfl (by decide), ?_⟩
  refine List.forall_mem_cons.mpr ⟨ok_aload_n F dX7_zoneOf_41 rfl (by decide), ?_⟩
  refine List.forall_mem_cons.mpr ⟨ok_getf F flX7_7 dX7_zoneOf_42 (by decide), ?_⟩
  refine List.forall_mem_cons.mpr ⟨ok_bipush F dX7_zoneOf_45 (by decide) (by decide), ?_⟩
  refine List.forall_mem_cons.mpr ⟨ok_iconst F dX7_zoneOf_47 (by decide) (by decide), ?_⟩
  refine List.forall_mem_cons.mpr ⟨ok_iload F dX7_zoneOf_48 (by decide), ?_⟩
  refine List.forall_mem_cons.mpr ⟨ok_imul F dX7_zoneOf_50 (by decide), ?_⟩
  refine List.forall_mem_cons.mpr ⟨ok_iadd F dX7_zoneOf_51 (by decide), ?_⟩
  refine List.forall_mem_cons.mpr ⟨ok_iald F dX7_zoneOf_52 (by decide), ?_⟩
  refine List.forall_mem_cons.mpr ⟨ok_iload_n F dX7_zoneOf_53 rfl (by decide), ?_⟩
  refine List.forall_mem_cons.mpr ⟨ok_icmp_ne F dX7_zoneOf_54 (by decide) (by decide) (by decide), ?_⟩
  refine List.forall_mem_cons.mpr ⟨ok_iconst F dX7_zoneOf_57 (by decide) (by decide), ?_⟩
  refine List.forall_mem_cons.mpr ⟨ok_goto F dX7_zoneOf_58 (by decide) (by decide) (by decide), ?_⟩
  refine List.forall_mem_cons.mpr ⟨ok_iconst F dX7_zoneOf_61 (by decide) (by decide), ?_⟩
  refine List.forall_mem_cons.mpr ⟨ok_iadd F dX7_zoneOf_62 (by decide), ?_⟩
  refine List.forall_mem_cons.mpr ⟨ok_istore_n F dX7_zoneOf_63 rfl (by decide) (by decide), ?_⟩
  refine List.forall_mem_cons.mpr ⟨ok_iinc F dX7_zoneOf_64 (by decide) (by decide) (by decide), ?_⟩
  refine List.forall_mem_cons.mpr ⟨ok_goto F dX7_zoneOf_67 (by decide) (by decide) (by decide), ?_⟩
  refine List.forall_mem_cons.mpr ⟨ok_iload_n F dX7_zoneOf_70 rfl (by decide), ?_⟩
  refine List.forall_mem_cons.mpr ⟨ok_iconst F dX7_zoneOf_71 (by decide) (by decide), ?_⟩
  refine List.forall_mem_cons.mpr ⟨ok_icmp_ge F dX7_zoneOf_72 (by decide) (by decide) (by decide), ?_⟩
  refine List.forall_mem_cons.mpr ⟨ok_aload_n F dX7_zoneOf_75 rfl (by decide), ?_⟩
  refine List.forall_mem_cons.mpr ⟨ok_getf F flX7_7 dX7_zoneOf_76 (by decide), ?_⟩
  refine List.forall_mem_cons.mpr ⟨ok_bipush F dX7_zoneOf_79 (by decide) (by decide), ?_⟩
  refine List.forall_mem_cons.mpr ⟨ok_iconst F dX7_zoneOf_81 (by decide) (by decide), ?_⟩
  refine List.forall_mem_cons.mpr ⟨ok_iload_n F dX7_zoneOf_82 rfl (by decide), ?_⟩
  refine List.forall_mem_cons.mpr ⟨ok_imul F dX7_zoneOf_83 (by decide), ?_⟩
  refine List.forall_mem_cons.mpr ⟨ok_iadd F dX7_zoneOf_84 (by decide), ?_⟩
  refine List.forall_mem_cons.mpr ⟨ok_iload_n F dX7_zoneOf_85 rfl (by decide), ?_⟩
  refine List.forall_mem_cons.mpr ⟨ok_iadd F dX7_zoneOf_86 (by decide), ?_⟩
  refine List.forall_mem_cons.mpr ⟨ok_iald F dX7_zoneOf_87 (by decide), ?_⟩
  refine List.forall_mem_cons.mpr ⟨ok_goto F dX7_zoneOf_88 (by decide) (by decide) (by decide), ?_⟩
  refine List.forall_mem_cons.mpr ⟨ok_iload_n F dX7_zoneOf_91 rfl (by decide), ?_⟩
  refine List.forall_mem_cons.mpr ⟨ok_iconst F dX7_zoneOf_92 (by decide) (by decide), ?_⟩
  refine List.forall_mem_cons.mpr ⟨ok_icmp_ne F dX7_zoneOf_93 (by decide) (by decide) (by decide), ?_⟩
  refine List.forall_mem_cons.mpr ⟨ok_aload_n F dX7_zoneOf_96 rfl (by decide), ?_⟩
  refine List.forall_mem_cons.mpr ⟨ok_iload_n F dX7_zoneOf_97 rfl (by decide), ?_⟩
  refine List.forall_mem_cons.mpr ⟨ok_callV F spok_X7_takes (ln_id aW) rcv_aW (by decide +kernel) (by decide) dX7_zoneOf_98 (by decide), ?_⟩
  refine List.forall_mem_cons.mpr ⟨ok_goto F dX7_zoneOf_101 (by decide) (by decide) (by decide), ?_⟩
  refine List.forall_mem_cons.mpr ⟨ok_iload_n F dX7_zoneOf_104 rfl (by decide), ?_⟩
  refine List.forall_mem_cons.mpr ⟨ok_iret F G dX7_zoneOf_105 (by decide), ?_⟩
  exact fun _ h => absurd h List.not_mem_nil
set_option maxRecDepth 100000 in
theorem w_X7_zoneOf : (∀ (K : Kt QT) (n : Nat) (L : xL) (st : List Value) (S : QT), nx cod_X7_zoneOf cut_X7_zoneOf K (n + 1) 0 L st S = (O_aload 0 1) (nx cod_X7_zoneOf cut_X7_zoneOf K n) 0 L st S) ∧
  (∀ (K : Kt QT) (n : Nat) (L : xL) (st : List Value) (S : QT), nx cod_X7_zoneOf cut_X7_zoneOf K (n + 1) 1 L st S = (O_iload 1 1) (nx cod_X7_zoneOf cut_X7_zoneOf K n) 1 L st S) ∧
  (∀ (K : Kt QT) (n : Nat) (L : xL) (st : List Value) (S : QT), nx cod_X7_zoneOf cut_X7_zoneOf K (n + 1) 2 L st S = (O_callV 1 0 (fun S => S) (fun _ S' => S') sp_X7_isZone) (nx cod_X7_zoneOf cut_X7_zoneOf K n) 2 L st S) ∧
  (∀ (K : Kt QT) (n : Nat) (L : xL) (st : List Value) (S : QT), nx cod_X7_zoneOf cut_X7_zoneOf K (n + 1) 5 L st S = (O_if_eq 20) (nx cod_X7_zoneOf cut_X7_zoneOf K n) 5 L st S) ∧
  (∀ (K : Kt QT) (n : Nat) (L : xL) (st : List Value) (S : QT), nx cod_X7_zoneOf cut_X7_zoneOf K (n + 1) 8 L st S = (O_iload 2 1) (nx cod_X7_zoneOf cut_X7_zoneOf K n) 8 L st S) ∧
  (∀ (K : Kt QT) (n : Nat) (L : xL) (st : List Value) (S : QT), nx cod_X7_zoneOf cut_X7_zoneOf K (n + 1) 9 L st S = (O_i2l) (nx cod_X7_zoneOf cut_X7_zoneOf K n) 9 L st S) ∧
  (∀ (K : Kt QT) (n : Nat) (L : xL) (st : List Value) (S : QT), nx cod_X7_zoneOf cut_X7_zoneOf K (n + 1) 10 L st S = (O_long 0 1) (nx cod_X7_zoneOf cut_X7_zoneOf K n) 10 L st S) ∧
  (∀ (K : Kt QT) (n : Nat) (L : xL) (st : List Value) (S : QT), nx cod_X7_zoneOf cut_X7_zoneOf K (n + 1) 11 L st S = (O_long 3 3) (nx cod_X7_zoneOf cut_X7_zoneOf K n) 11 L st S) ∧
  (∀ (K : Kt QT) (n : Nat) (L : xL) (st : List Value) (S : QT), nx cod_X7_zoneOf cut_X7_zoneOf K (n + 1) 14 L st S = (O_callS 3 sp_X7_in) (nx cod_X7_zoneOf cut_X7_zoneOf K n) 14 L st S) ∧
  (∀ (K : Kt QT) (n : Nat) (L : xL) (st : List Value) (S : QT), nx cod_X7_zoneOf cut_X7_zoneOf K (n + 1) 17 L st S = (O_if_ne 23) (nx cod_X7_zoneOf cut_X7_zoneOf K n) 17 L st S) ∧
  (∀ (K : Kt QT) (n : Nat) (L : xL) (st : List Value) (S : QT), nx cod_X7_zoneOf cut_X7_zoneOf K (n + 1) 20 L st S = (O_int (-1000001) 2) (nx cod_X7_zoneOf cut_X7_zoneOf K n) 20 L st S) ∧
  (∀ (K : Kt QT) (n : Nat) (L : xL) (st : List Value) (S : QT), nx cod_X7_zoneOf cut_X7_zoneOf K (n + 1) 22 L st S = (O_iret) (nx cod_X7_zoneOf cut_X7_zoneOf K n) 22 L st S) ∧
  (∀ (K : Kt QT) (n : Nat) (L : xL) (st : List Value) (S : QT), nx cod_X7_zoneOf cut_X7_zoneOf K (n + 1) 23 L st S = (O_int 0 1) (nx cod_X7_zoneOf cut_X7_zoneOf K n) 23 L st S) ∧
  (∀ (K : Kt QT) (n : Nat) (L : xL) (st : List Value) (S : QT), nx cod_X7_zoneOf cut_X7_zoneOf K (n + 1) 24 L st S = (O_istore 3 1) (nx cod_X7_zoneOf cut_X7_zoneOf K n) 24 L st S) ∧
  (∀ (K : Kt QT) (n : Nat) (L : xL) (st : List Value) (S : QT), nx cod_X7_zoneOf cut_X7_zoneOf K (n + 1) 25 L st S = (O_int 0 1) (nx cod_X7_zoneOf cut_X7_zoneOf K n) 25 L st S) ∧
  (∀ (K : Kt QT) (n : Nat) (L : xL) (st : List Value) (S : QT), nx cod_X7_zoneOf cut_X7_zoneOf K (n + 1) 26 L st S = (O_istore 4 2) (nx cod_X7_zoneOf cut_X7_zoneOf K n) 26 L st S) ∧
  (∀ (K : Kt QT) (n : Nat) (L : xL) (st : List Value) (S : QT), nx cod_X7_zoneOf cut_X7_zoneOf K (n + 1) 28 L st S = K 28 L st S) ∧
  (∀ (K : Kt QT) (n : Nat) (L : xL) (st : List Value) (S : QT), nx1 cod_X7_zoneOf cut_X7_zoneOf K n 28 L st S = (O_iload 4 2) (nx cod_X7_zoneOf cut_X7_zoneOf K n) 28 L st S) ∧
  (∀ (K : Kt QT) (n : Nat) (L : xL) (st : List Value) (S : QT), nx cod_X7_zoneOf cut_X7_zoneOf K (n + 1) 30 L st S = (O_aload 0 1) (nx cod_X7_zoneOf cut_X7_zoneOf K n) 30 L st S) ∧
  (∀ (K : Kt QT) (n : Nat) (L : xL) (st : List Value) (S : QT), nx cod_X7_zoneOf cut_X7_zoneOf K (n + 1) 31 L st S = (O_getf aW 7 0) (nx cod_X7_zoneOf cut_X7_zoneOf K n) 31 L st S) ∧
  (∀ (K : Kt QT) (n : Nat) (L : xL) (st : List Value) (S : QT), nx cod_X7_zoneOf cut_X7_zoneOf K (n + 1) 34 L st S = (O_int 16 2) (nx cod_X7_zoneOf cut_X7_zoneOf K n) 34 L st S) ∧
  (∀ (K : Kt QT) (n : Nat) (L : xL) (st : List Value) (S : QT), nx cod_X7_zoneOf cut_X7_zoneOf K (n + 1) 36 L st S = (O_ald aW 0) (nx cod_X7_zoneOf cut_X7_zoneOf K n) 36 L st S) ∧
  (∀ (K : Kt QT) (n : Nat) (L : xL) (st : List Value) (S : QT), nx cod_X7_zoneOf cut_X7_zoneOf K (n + 1) 37 L st S = (O_icmp_ge 70) (nx cod_X7_zoneOf cut_X7_zoneOf K n) 37 L st S) ∧
  (∀ (K : Kt QT) (n : Nat) (L : xL) (st : List Value) (S : QT), nx cod_X7_zoneOf cut_X7_zoneOf K (n + 1) 40 L st S = (O_iload 3 1) (nx cod_X7_zoneOf cut_X7_zoneOf K n) 40 L st S) ∧
  (∀ (K : Kt QT) (n : Nat) (L : xL) (st : List Value) (S : QT), nx cod_X7_zoneOf cut_X7_zoneOf K (n + 1) 41 L st S = (O_aload 0 1) (nx cod_X7_zoneOf cut_X7_zoneOf K n) 41 L st S) ∧
  (∀ (K : Kt QT) (n : Nat) (L : xL) (st : List Value) (S : QT), nx cod_X7_zoneOf cut_X7_zoneOf K (n + 1) 42 L st S = (O_getf aW 7 0) (nx cod_X7_zoneOf cut_X7_zoneOf K n) 42 L st S) ∧
  (∀ (K : Kt QT) (n : Nat) (L : xL) (st : List Value) (S : QT), nx cod_X7_zoneOf cut_X7_zoneOf K (n + 1) 45 L st S = (O_int 103 2) (nx cod_X7_zoneOf cut_X7_zoneOf K n) 45 L st S) ∧
  (∀ (K : Kt QT) (n : Nat) (L : xL) (st : List Value) (S : QT), nx cod_X7_zoneOf cut_X7_zoneOf K (n + 1) 47 L st S = (O_int 3 1) (nx cod_X7_zoneOf cut_X7_zoneOf K n) 47 L st S) ∧
  (∀ (K : Kt QT) (n : Nat) (L : xL) (st : List Value) (S : QT), nx cod_X7_zoneOf cut_X7_zoneOf K (n + 1) 48 L st S = (O_iload 4 2) (nx cod_X7_zoneOf cut_X7_zoneOf K n) 48 L st S) ∧
  (∀ (K : Kt QT) (n : Nat) (L : xL) (st : List Value) (S : QT), nx cod_X7_zoneOf cut_X7_zoneOf K (n + 1) 50 L st S = (O_imul) (nx cod_X7_zoneOf cut_X7_zoneOf K n) 50 L st S) ∧
  (∀ (K : Kt QT) (n : Nat) (L : xL) (st : List Value) (S : QT), nx cod_X7_zoneOf cut_X7_zoneOf K (n + 1) 51 L st S = (O_iadd) (nx cod_X7_zoneOf cut_X7_zoneOf K n) 51 L st S) ∧
  (∀ (K : Kt QT) (n : Nat) (L : xL) (st : List Value) (S : QT), nx cod_X7_zoneOf cut_X7_zoneOf K (n + 1) 52 L st S = (O_ald aW 0) (nx cod_X7_zoneOf cut_X7_zoneOf K n) 52 L st S) ∧
  (∀ (K : Kt QT) (n : Nat) (L : xL) (st : List Value) (S : QT), nx cod_X7_zoneOf cut_X7_zoneOf K (n + 1) 53 L st S = (O_iload 1 1) (nx cod_X7_zoneOf cut_X7_zoneOf K n) 53 L st S) ∧
  (∀ (K : Kt QT) (n : Nat) (L : xL) (st : List Value) (S : QT), nx cod_X7_zoneOf cut_X7_zoneOf K (n + 1) 54 L st S = (O_icmp_ne 61) (nx cod_X7_zoneOf cut_X7_zoneOf K n) 54 L st S) ∧
  (∀ (K : Kt QT) (n : Nat) (L : xL) (st : List Value) (S : QT), nx cod_X7_zoneOf cut_X7_zoneOf K (n + 1) 57 L st S = (O_int 1 1) (nx cod_X7_zoneOf cut_X7_zoneOf K n) 57 L st S) ∧
  (∀ (K : Kt QT) (n : Nat) (L : xL) (st : List Value) (S : QT), nx cod_X7_zoneOf cut_X7_zoneOf K (n + 1) 58 L st S = (O_goto 62) (nx cod_X7_zoneOf cut_X7_zoneOf K n) 58 L st S) ∧
  (∀ (K : Kt QT) (n : Nat) (L : xL) (st : List Value) (S : QT), nx cod_X7_zoneOf cut_X7_zoneOf K (n + 1) 61 L st S = (O_int 0 1) (nx cod_X7_zoneOf cut_X7_zoneOf K n) 61 L st S) ∧
  (∀ (K : Kt QT) (n : Nat) (L : xL) (st : List Value) (S : QT), nx cod_X7_zoneOf cut_X7_zoneOf K (n + 1) 62 L st S = (O_iadd) (nx cod_X7_zoneOf cut_X7_zoneOf K n) 62 L st S) ∧
  (∀ (K : Kt QT) (n : Nat) (L : xL) (st : List Value) (S : QT), nx cod_X7_zoneOf cut_X7_zoneOf K (n + 1) 63 L st S = (O_istore 3 1) (nx cod_X7_zoneOf cut_X7_zoneOf K n) 63 L st S) ∧
  (∀ (K : Kt QT) (n : Nat) (L : xL) (st : List Value) (S : QT), nx cod_X7_zoneOf cut_X7_zoneOf K (n + 1) 64 L st S = (O_iinc 4 1) (nx cod_X7_zoneOf cut_X7_zoneOf K n) 64 L st S) ∧
  (∀ (K : Kt QT) (n : Nat) (L : xL) (st : List Value) (S : QT), nx cod_X7_zoneOf cut_X7_zoneOf K (n + 1) 67 L st S = (O_goto 28) (nx cod_X7_zoneOf cut_X7_zoneOf K n) 67 L st S) ∧
  (∀ (K : Kt QT) (n : Nat) (L : xL) (st : List Value) (S : QT), nx cod_X7_zoneOf cut_X7_zoneOf K (n + 1) 70 L st S = K 70 L st S) ∧
  (∀ (K : Kt QT) (n : Nat) (L : xL) (st : List Value) (S : QT), nx1 cod_X7_zoneOf cut_X7_zoneOf K n 70 L st S = (O_iload 2 1) (nx cod_X7_zoneOf cut_X7_zoneOf K n) 70 L st S) ∧
  (∀ (K : Kt QT) (n : Nat) (L : xL) (st : List Value) (S : QT), nx cod_X7_zoneOf cut_X7_zoneOf K (n + 1) 71 L st S = (O_int 2 1) (nx cod_X7_zoneOf cut_X7_zoneOf K n) 71 L st S) ∧
  (∀ (K : Kt QT) (n : Nat) (L : xL) (st : List Value) (S : QT), nx cod_X7_zoneOf cut_X7_zoneOf K (n + 1) 72 L st S = (O_icmp_ge 91) (nx cod_X7_zoneOf cut_X7_zoneOf K n) 72 L st S) ∧
  (∀ (K : Kt QT) (n : Nat) (L : xL) (st : List Value) (S : QT), nx cod_X7_zoneOf cut_X7_zoneOf K (n + 1) 75 L st S = (O_aload 0 1) (nx cod_X7_zoneOf cut_X7_zoneOf K n) 75 L st S) ∧
  (∀ (K : Kt QT) (n : Nat) (L : xL) (st : List Value) (S : QT), nx cod_X7_zoneOf cut_X7_zoneOf K (n + 1) 76 L st S = (O_getf aW 7 0) (nx cod_X7_zoneOf cut_X7_zoneOf K n) 76 L st S) ∧
  (∀ (K : Kt QT) (n : Nat) (L : xL) (st : List Value) (S : QT), nx cod_X7_zoneOf cut_X7_zoneOf K (n + 1) 79 L st S = (O_int 87 2) (nx cod_X7_zoneOf cut_X7_zoneOf K n) 79 L st S) ∧
  (∀ (K : Kt QT) (n : Nat) (L : xL) (st : List Value) (S : QT), nx cod_X7_zoneOf cut_X7_zoneOf K (n + 1) 81 L st S = (O_int 2 1) (nx cod_X7_zoneOf cut_X7_zoneOf K n) 81 L st S) ∧
  (∀ (K : Kt QT) (n : Nat) (L : xL) (st : List Value) (S : QT), nx cod_X7_zoneOf cut_X7_zoneOf K (n + 1) 82 L st S = (O_iload 1 1) (nx cod_X7_zoneOf cut_X7_zoneOf K n) 82 L st S) ∧
  (∀ (K : Kt QT) (n : Nat) (L : xL) (st : List Value) (S : QT), nx cod_X7_zoneOf cut_X7_zoneOf K (n + 1) 83 L st S = (O_imul) (nx cod_X7_zoneOf cut_X7_zoneOf K n) 83 L st S) ∧
  (∀ (K : Kt QT) (n : Nat) (L : xL) (st : List Value) (S : QT), nx cod_X7_zoneOf cut_X7_zoneOf K (n + 1) 84 L st S = (O_iadd) (nx cod_X7_zoneOf cut_X7_zoneOf K n) 84 L st S) ∧
  (∀ (K : Kt QT) (n : Nat) (L : xL) (st : List Value) (S : QT), nx cod_X7_zoneOf cut_X7_zoneOf K (n + 1) 85 L st S = (O_iload 2 1) (nx cod_X7_zoneOf cut_X7_zoneOf K n) 85 L st S) ∧
  (∀ (K : Kt QT) (n : Nat) (L : xL) (st : List Value) (S : QT), nx cod_X7_zoneOf cut_X7_zoneOf K (n + 1) 86 L st S = (O_iadd) (nx cod_X7_zoneOf cut_X7_zoneOf K n) 86 L st S) ∧
  (∀ (K : Kt QT) (n : Nat) (L : xL) (st : List Value) (S : QT), nx cod_X7_zoneOf cut_X7_zoneOf K (n + 1) 87 L st S = (O_ald aW 0) (nx cod_X7_zoneOf cut_X7_zoneOf K n) 87 L st S) ∧
  (∀ (K : Kt QT) (n : Nat) (L : xL) (st : List Value) (S : QT), nx cod_X7_zoneOf cut_X7_zoneOf K (n + 1) 88 L st S = (O_goto 105) (nx cod_X7_zoneOf cut_X7_zoneOf K n) 88 L st S) ∧
  (∀ (K : Kt QT) (n : Nat) (L : xL) (st : List Value) (S : QT), nx cod_X7_zoneOf cut_X7_zoneOf K (n + 1) 91 L st S = (O_iload 2 1) (nx cod_X7_zoneOf cut_X7_zoneOf K n) 91 L st S) ∧
  (∀ (K : Kt QT) (n : Nat) (L : xL) (st : List Value) (S : QT), nx cod_X7_zoneOf cut_X7_zoneOf K (n + 1) 92 L st S = (O_int 2 1) (nx cod_X7_zoneOf cut_X7_zoneOf K n) 92 L st S) ∧
  (∀ (K : Kt QT) (n : Nat) (L : xL) (st : List Value) (S : QT), nx cod_X7_zoneOf cut_X7_zoneOf K (n + 1) 93 L st S = (O_icmp_ne 104) (nx cod_X7_zoneOf cut_X7_zoneOf K n) 93 L st S) ∧
  (∀ (K : Kt QT) (n : Nat) (L : xL) (st : List Value) (S : QT), nx cod_X7_zoneOf cut_X7_zoneOf K (n + 1) 96 L st S = (O_aload 0 1) (nx cod_X7_zoneOf cut_X7_zoneOf K n) 96 L st S) ∧
  (∀ (K : Kt QT) (n : Nat) (L : xL) (st : List Value) (S : QT), nx cod_X7_zoneOf cut_X7_zoneOf K (n + 1) 97 L st S = (O_iload 1 1) (nx cod_X7_zoneOf cut_X7_zoneOf K n) 97 L st S) ∧
  (∀ (K : Kt QT) (n : Nat) (L : xL) (st : List Value) (S : QT), nx cod_X7_zoneOf cut_X7_zoneOf K (n + 1) 98 L st S = (O_callV 1 0 (fun S => S) (fun _ S' => S') sp_X7_takes) (nx cod_X7_zoneOf cut_X7_zoneOf K n) 98 L st S) ∧
  (∀ (K : Kt QT) (n : Nat) (L : xL) (st : List Value) (S : QT), nx cod_X7_zoneOf cut_X7_zoneOf K (n + 1) 101 L st S = (O_goto 105) (nx cod_X7_zoneOf cut_X7_zoneOf K n) 101 L st S) ∧
  (∀ (K : Kt QT) (n : Nat) (L : xL) (st : List Value) (S : QT), nx cod_X7_zoneOf cut_X7_zoneOf K (n + 1) 104 L st S = (O_iload 3 1) (nx cod_X7_zoneOf cut_X7_zoneOf K n) 104 L st S) ∧
  (∀ (K : Kt QT) (n : Nat) (L : xL) (st : List Value) (S : QT), nx cod_X7_zoneOf cut_X7_zoneOf K (n + 1) 105 L st S = (O_iret) (nx cod_X7_zoneOf cut_X7_zoneOf K n) 105 L st S) ∧
  (∀ (K : Kt QT) (n : Nat) (L : xL) (st : List Value) (S : QT), nx cod_X7_zoneOf cut_X7_zoneOf K (n + 1) 100000 L st S = K 100000 L st S) := by
  repeat' apply And.intro
  all_goals (intros; rfl)
set_option maxRecDepth 100000 in
theorem mk_X7_zoneOf {P P' : QT} {r : Option Value} {p0 : Int32} {p1 : Int32} (body : ∀ E : En, CodOk E aW cod_X7_zoneOf → Gd E aW 100000 [] r.toList P' → Gd E aW 0 [some (.ref 0), some (.int p0), some (.int p1), none, none] [] P) : Con yX7_zoneOf cX7_zoneOf 5 (some .int) 2 aW [.ref 0, .int p0, .int p1] P r P' :=
  Con.of (by decide) ((aW_len P').trans (aW_len P).symm) rfl (Nat.le_of_ble_eq_true rfl) (fun E F G hr => body E (okc_X7_zoneOf F G) hr)
set_option maxRecDepth 10000 in
theorem con_X7_zoneOf (S : ST) (M : MT) (fl : Bool) (z : Int32) (w : Int32) (hp : S.inv 1) : Con yX7_zoneOf cX7_zoneOf 5 (some .int) 2 aW [.ref 0, .int z, .int w] (S, M, fl) (some (.int (if S.Z.has z = false then -1000001 else S.Z.of z.toNatClampNeg S.pressure w z))) ((S, M, fl)) := by
  refine mk_X7_zoneOf (fun E C hr => ?_)
  have ho := hp.2.1.1
  have hb := hp.2.1.2.1
  clear hp
  by_cases c1 : S.Z.has z = true
  · rw [if_neg (by rw [c1]; decide)] at hr
    have hv := ZT.has_in ho c1
    by_cases c2 : inR w 0 3 = true
    · have h70 : ∀ q : Option Value, Gd E aW 70 [some (.ref 0), some (.int z), some (.int w), some (.int (S.Z.progsOf z)), q] [] (S, M, fl) := by
        intro q
        obtain ⟨i, hi, ez, e1, e2, e3, e4, e5⟩ := at_zone hv
        obtain ⟨e6, e7⟩ := abs_zone S hi
        unfold ZT.of at hr
        rw [e1, zof_facts hb hi] at hr
        have e0 : (87 : Int32) + 2 * z + 0 = 87 + 2 * z := Int32.add_zero _
        clear c1
        rcases wlit3 c2 with rfl | rfl | rfl | rfl
        · have hr : Gd E aW 100000 [] [.int (S.Z.demands i)] (S, M, fl) := hr
          (refine nx1_ok C cut_X7_zoneOf 1000 ?_; simp only [w_X7_zoneOf, ops_eq, xst_eq, call_eq, oK_eq, Option.toList_some, Option.toList_none, List.cons_append, List.nil_append, List.length_cons, List.length_nil, true_and, and_true, Nat.reduceAdd, aW_F, aW_A, aW_P, aW_w, abs_eq, O_asti_eq, v170, cl_eq, ST_id, MT_gs, ST_gs, PT_gs, ZT_gs, NT_gs, ET_gs, se_X7_isZone, se_X7_in, se_X7_takes, e0, e2, e3, e6])
          ((repeat' (with_reducible first | apply And.intro | intro _)) <;> first | (with_reducible assumption) | (with_reducible exact Nat.zero_le _) | contradiction | (simp only [Option.toList_none, Option.toList_some] at hr; with_reducible assumption) | (simp_all; done) | assumption)
        · have hr : Gd E aW 100000 [] [.int (S.Z.isOpen i)] (S, M, fl) := hr
          (refine nx1_ok C cut_X7_zoneOf 1000 ?_; simp only [w_X7_zoneOf, ops_eq, xst_eq, call_eq, oK_eq, Option.toList_some, Option.toList_none, List.cons_append, List.nil_append, List.length_cons, List.length_nil, true_and, and_true, Nat.reduceAdd, aW_F, aW_A, aW_P, aW_w, abs_eq, O_asti_eq, v170, cl_eq, ST_id, MT_gs, ST_gs, PT_gs, ZT_gs, NT_gs, ET_gs, se_X7_isZone, se_X7_in, se_X7_takes, e4, e5, e7])
          ((repeat' (with_reducible first | apply And.intro | intro _)) <;> first | (with_reducible assumption) | (with_reducible exact Nat.zero_le _) | contradiction | (simp only [Option.toList_none, Option.toList_some] at hr; with_reducible assumption) | (simp_all; done) | assumption)
        · have hr : Gd E aW 100000 [] [.int (S.Z.takes i S.pressure)] (S, M, fl) := hr
          (refine nx1_ok C cut_X7_zoneOf 1000 ?_; simp only [w_X7_zoneOf, ops_eq, xst_eq, call_eq, oK_eq, Option.toList_some, Option.toList_none, List.cons_append, List.nil_append, List.length_cons, List.length_nil, true_and, and_true, Nat.reduceAdd, aW_F, aW_A, aW_P, aW_w, abs_eq, O_asti_eq, v170, cl_eq, ST_id, MT_gs, ST_gs, PT_gs, ZT_gs, NT_gs, ET_gs, se_X7_isZone, se_X7_in, se_X7_takes, hv, hb, e1])
          ((repeat' (with_reducible first | apply And.intro | intro _)) <;> first | (with_reducible assumption) | (with_reducible exact Nat.zero_le _) | contradiction | (simp only [Option.toList_none, Option.toList_some] at hr; with_reducible assumption) | (simp_all; done) | assumption)
        · have hr : Gd E aW 100000 [] [.int (S.Z.progsOf z)] (S, M, fl) := hr
          (refine nx1_ok C cut_X7_zoneOf 1000 ?_; simp only [w_X7_zoneOf, ops_eq, xst_eq, call_eq, oK_eq, Option.toList_some, Option.toList_none, List.cons_append, List.nil_append, List.length_cons, List.length_nil, true_and, and_true, Nat.reduceAdd, aW_F, aW_A, aW_P, aW_w, abs_eq, O_asti_eq, v170, cl_eq, ST_id, MT_gs, ST_gs, PT_gs, ZT_gs, NT_gs, ET_gs, se_X7_isZone, se_X7_in, se_X7_takes])
          ((repeat' (with_reducible first | apply And.intro | intro _)) <;> first | (with_reducible assumption) | (with_reducible exact Nat.zero_le _) | contradiction | (simp only [Option.toList_none, Option.toList_some] at hr; with_reducible assumption) | (simp_all; done) | assumption)
      clear hr
      have key : Gd E aW 28 [some (.ref 0), some (.int z), some (.int w), some (.int 0), some (.int (nI 0))] [] (S, M, fl) := by
        refine it_up (f := fun i r => r + bI (decide (S.Z.pzones i = z))) (a := (0 : Int32)) (n := S.Z.m) (fun _ _ => True) (fun i r => Gd E aW 28 [some (.ref 0), some (.int z), some (.int w), some (.int r), some (.int (nI i))] [] (S, M, fl)) trivial (fun _ _ _ _ => trivial) (fun i r hi _ hn => ?_) ?_
        · have hx := ixs ho.2 hi
          have h8 : i < 8 := by have := ho.2.2; omega
          have h1 := at_prog h8
          have h2 := abs_prog S h8
          clear h70
          by_cases d : S.Z.pzones i = z
          · rw [decide_eq_true d] at hn
            (refine nx1_ok C cut_X7_zoneOf 1000 ?_; simp only [w_X7_zoneOf, ops_eq, xst_eq, call_eq, oK_eq, Option.toList_some, Option.toList_none, List.cons_append, List.nil_append, List.length_cons, List.length_nil, true_and, and_true, Nat.reduceAdd, aW_F, aW_A, aW_P, aW_w, abs_eq, O_asti_eq, v170, cl_eq, ST_id, MT_gs, ST_gs, PT_gs, ZT_gs, NT_gs, ET_gs, se_X7_isZone, se_X7_in, se_X7_takes, hx, h1, h2, d])
            ((repeat' (with_reducible first | apply And.intro | intro _)) <;> first | (with_reducible assumption) | (with_reducible exact Nat.zero_le _) | contradiction | (simp only [Option.toList_none, Option.toList_some] at hr; with_reducible assumption) | (simp_all; done) | assumption)
          · rw [decide_eq_false d] at hn
            (refine nx1_ok C cut_X7_zoneOf 1000 ?_; simp only [w_X7_zoneOf, ops_eq, xst_eq, call_eq, oK_eq, Option.toList_some, Option.toList_none, List.cons_append, List.nil_append, List.length_cons, List.length_nil, true_and, and_true, Nat.reduceAdd, aW_F, aW_A, aW_P, aW_w, abs_eq, O_asti_eq, v170, cl_eq, ST_id, MT_gs, ST_gs, PT_gs, ZT_gs, NT_gs, ET_gs, se_X7_isZone, se_X7_in, se_X7_takes, hx, h1, h2, d])
            ((repeat' (with_reducible first | apply And.intro | intro _)) <;> first | (with_reducible assumption) | (with_reducible exact Nat.zero_le _) | contradiction | (simp only [Option.toList_none, Option.toList_some] at hr; with_reducible assumption) | (simp_all; done) | assumption)
        · have hx := ixe ho.2
          have e : it (fun i r => r + bI (decide (S.Z.pzones i = z))) 0 S.Z.m = S.Z.progsOf z := rfl
          rw [e]
          have h70 := h70 (some (.int S.Z.programmes))
          (refine nx1_ok C cut_X7_zoneOf 1000 ?_; simp only [w_X7_zoneOf, ops_eq, xst_eq, call_eq, oK_eq, Option.toList_some, Option.toList_none, List.cons_append, List.nil_append, List.length_cons, List.length_nil, true_and, and_true, Nat.reduceAdd, aW_F, aW_A, aW_P, aW_w, abs_eq, O_asti_eq, v170, cl_eq, ST_id, MT_gs, ST_gs, PT_gs, ZT_gs, NT_gs, ET_gs, se_X7_isZone, se_X7_in, se_X7_takes, hx])
          ((repeat' (with_reducible first | apply And.intro | intro _)) <;> first | (with_reducible assumption) | (with_reducible exact Nat.zero_le _) | contradiction | (simp only [Option.toList_none, Option.toList_some] at hr; with_reducible assumption) | (simp_all; done) | assumption)
      clear h70
      (refine nx_ok C (cuts := cut_X7_zoneOf) 1000 _ _ _ _ ?_; simp only [w_X7_zoneOf, ops_eq, xst_eq, call_eq, oK_eq, Option.toList_some, Option.toList_none, List.cons_append, List.nil_append, List.length_cons, List.length_nil, true_and, and_true, Nat.reduceAdd, aW_F, aW_A, aW_P, aW_w, abs_eq, O_asti_eq, v170, cl_eq, ST_id, MT_gs, ST_gs, PT_gs, ZT_gs, NT_gs, ET_gs, se_X7_isZone, se_X7_in, se_X7_takes, bI_eq, inL_lit, ho, c1, c2])
      ((repeat' (with_reducible first | apply And.intro | intro _)) <;> first | (with_reducible assumption) | (with_reducible exact Nat.zero_le _) | contradiction | (simp only [Option.toList_none, Option.toList_some] at hr; with_reducible assumption) | (simp_all; done) | assumption)
    · have hw : ∀ n, n ≤ 3 → ¬ w = nI n := fun n hn e => c2 (by
        rw [e]
        match n, hn with
        | 0, _ => decide
        | 1, _ => decide
        | 2, _ => decide
        | 3, _ => decide)
      have e : S.Z.of z.toNatClampNeg S.pressure w z = -1000001 := by
        unfold ZT.of
        rw [if_neg (show ¬ w = 0 from hw 0 (by omega)), if_neg (show ¬ w = 1 from hw 1 (by omega)), if_neg (show ¬ w = 2 from hw 2 (by omega)), if_neg (show ¬ w = 3 from hw 3 (by omega))]
      rw [e] at hr
      have c2 := bnot c2
      clear hw
      (refine nx_ok C (cuts := cut_X7_zoneOf) 1000 _ _ _ _ ?_; simp only [w_X7_zoneOf, ops_eq, xst_eq, call_eq, oK_eq, Option.toList_some, Option.toList_none, List.cons_append, List.nil_append, List.length_cons, List.length_nil, true_and, and_true, Nat.reduceAdd, aW_F, aW_A, aW_P, aW_w, abs_eq, O_asti_eq, v170, cl_eq, ST_id, MT_gs, ST_gs, PT_gs, ZT_gs, NT_gs, ET_gs, se_X7_isZone, se_X7_in, se_X7_takes, bI_eq, inL_lit, ho, c1, c2])
      ((repeat' (with_reducible first | apply And.intro | intro _)) <;> first | (with_reducible assumption) | (with_reducible exact Nat.zero_le _) | contradiction | (simp only [Option.toList_none, Option.toList_some] at hr; with_reducible assumption) | (simp_all; done) | assumption)
  · have c1 := bnot c1
    rw [if_pos c1] at hr
    (refine nx_ok C (cuts := cut_X7_zoneOf) 1000 _ _ _ _ ?_; simp only [w_X7_zoneOf, ops_eq, xst_eq, call_eq, oK_eq, Option.toList_some, Option.toList_none, List.cons_append, List.nil_append, List.length_cons, List.length_nil, true_and, and_true, Nat.reduceAdd, aW_F, aW_A, aW_P, aW_w, abs_eq, O_asti_eq, v170, cl_eq, ST_id, MT_gs, ST_gs, PT_gs, ZT_gs, NT_gs, ET_gs, se_X7_isZone, se_X7_in, se_X7_takes, bI_eq, inL_lit, ho, c1])
    ((repeat' (with_reducible first | apply And.intro | intro _)) <;> first | (with_reducible assumption) | (with_reducible exact Nat.zero_le _) | contradiction | (simp only [Option.toList_none, Option.toList_some] at hr; with_reducible assumption) | (simp_all; done) | assumption)
def spc_X7_zoneOf (S : ST) (M : MT) (fl : Bool) (z : Int32) (w : Int32) (K : Option Value → QT → Prop) : Prop := (S.inv 1) ∧ K (some (.int (if S.Z.has z = false then -1000001 else S.Z.of z.toNatClampNeg S.pressure w z))) ((S, M, fl))
def sp_X7_zoneOf : Sp QT := fun av q K => match av with
  | [.ref 0, .int z, .int w] => spc_X7_zoneOf q.1 q.2.1 q.2.2 z w K
  | _ => False
theorem se_X7_zoneOf (S : ST) (M : MT) (fl : Bool) (z : Int32) (w : Int32) (K : Option Value → QT → Prop) : sp_X7_zoneOf [.ref 0, .int z, .int w] (S, M, fl) K = ((S.inv 1) ∧ K (some (.int (if S.Z.has z = false then -1000001 else S.Z.of z.toNatClampNeg S.pressure w z))) ((S, M, fl))) := rfl
theorem spok_X7_zoneOf : SpOk yX7_zoneOf cX7_zoneOf 5 (some .int) 2 aW sp_X7_zoneOf := by
  intro av q K h
  unfold sp_X7_zoneOf at h
  split at h
  · rename_i z w; refine ⟨_, _, ?_, con_X7_zoneOf q.1 q.2.1 q.2.2 z w h.1, h.2⟩; trivial
  · exact h.elim
def ST.tell (S : ST) (w : Int32) : Int32 := if w = 0 then S.pressure else if w = 1 then S.level else if w = 2 then S.supply else if w = 3 then S.demand else if w = 4 then (if S.P.vrb = -1 then -1000004 else S.P.vrb) else if w = 5 then S.P.running else if w = 6 then (if S.dry = 0 then 0 else 1) else if w = 7 then S.trips else if w = 8 then S.dryMinutes else if w = 9 then S.N.flow else if w = 10 then S.N.alarms else if w = 11 then S.toStart else if w = 12 then S.toStop else if w = 13 then S.toSleep else if w = 14 then S.allSupplied else -1000001
theorem st_idx : (5 : Int32) + 6 - 6 = 5 ∧ (5 : Int32) + 7 - 6 = 6 ∧ (5 : Int32) + 8 - 6 = 7 ∧ (5 : Int32) + 9 - 6 = 8 ∧ (5 : Int32) + 10 - 6 = 9 ∧ (5 : Int32) + 11 - 6 = 10 ∧ (5 : Int32) + 12 - 6 = 11 ∧ (5 : Int32) + 13 - 6 = 12 ∧ (14 : Int32) + 0 = 14 ∧ (14 : Int32) + 1 = 15 ∧ (14 : Int32) + 2 = 16 ∧ (18 : Int32) + 5 - 5 = 18 ∧ (18 : Int32) + 6 - 5 = 19 := by decide
def cod_X7_station : List (Nat × Op QT) := [(0, O_iload 1 1), (1, O_i2l), (2, O_long 0 1), (3, O_long 14 3), (6, O_callS 3 sp_X7_in), (9, O_if_ne 15), (12, O_int (-1000001) 2), (14, O_iret), (15, O_iload 1 1), (16, O_switch [(0, 92), (1, 99), (2, 106), (3, 113), (4, 118), (5, 140), (6, 153), (7, 153), (8, 153), (9, 153), (10, 153), (11, 153), (12, 153), (13, 153), (14, 145)] 153), (92, O_aload 0 1), (93, O_getf aW 7 0), (96, O_int 1 1), (97, O_ald aW 0), (98, O_iret), (99, O_aload 0 1), (100, O_getf aW 7 0), (103, O_int 2 1), (104, O_ald aW 0), (105, O_iret), (106, O_aload 0 1), (107, O_getf aW 7 0), (110, O_int 3 1), (111, O_ald aW 0), (112, O_iret), (113, O_aload 0 1), (114, O_callV 0 0 (fun S => S) (fun _ S' => S') sp_X7_demand), (117, O_iret), (118, O_aload 0 1), (119, O_getf aW 7 0), (122, O_int 4 1), (123, O_ald aW 0), (124, O_int (-1) 1), (125, O_icmp_ne 133), (128, O_int (-1000004) 2), (130, O_goto 139), (133, O_aload 0 1), (134, O_getf aW 7 0), (137, O_int 4 1), (138, O_ald aW 0), (139, O_iret), (140, O_aload 0 1), (141, O_callV 0 0 (fun S => S) (fun _ S' => S') sp_X7_running), (144, O_iret), (145, O_aload 0 1), (146, O_getf aW 7 0), (149, O_int 13 2), (151, O_ald aW 0), (152, O_iret), (153, O_aload 0 1), (154, O_getf aW 7 0), (157, O_int 5 1), (158, O_iload 1 1), (159, O_iadd), (160, O_int 6 2), (162, O_isub), (163, O_ald aW 0), (164, O_iret)]
abbrev cut_X7_station : List Nat := []
set_option maxRecDepth 100000 in
theorem okc_X7_station {E : En} (F : Fx E RX7 cX7_station 2 3) (G : Fr E (some .int)) : CodOk E aW cod_X7_station := by
  unfold CodOk cod_X7_station
  refine List.forall_mem_cons.mpr ⟨ok_iload_n F dX7_station_0 rfl (by decide), ?_⟩
  refine List.forall_mem_cons.mpr ⟨ok_i2l F dX7_station_1 (by decide), ?_⟩
  refine List.forall_mem_cons.mpr ⟨ok_lconst F dX7_station_2 (by decide) (by decide), ?_⟩
  refine List.forall_mem_cons.mpr ⟨ok_ldc2 F (ix := 229) (wsHas_mem (l := [Jvm.Cond.constantLong RX7 229 14]) (by decide +kernel) (by simp)) dX7_station_3 (by decide), ?_⟩
  refine List.forall_mem_cons.mpr ⟨ok_callS F spok_X7_in (by decide +kernel) rfl (by decide) dX7_station_6 (by decide), ?_⟩
  refine List.forall_mem_cons.mpr ⟨ok_if_ne F dX7_station_9 (by decide) (by decide) (by decide), ?_⟩
  refine List.forall_mem_cons.mpr ⟨ok_ldc F (ix := 62) (wsHas_mem (l := [Jvm.Cond.constant RX7 62 (-1000001)]) (by decide +kernel) (by simp)) dX7_station_12 (by decide), ?_⟩
  refine List.forall_mem_cons.mpr ⟨ok_iret F G dX7_station_14 (by decide), ?_⟩
  refine List.forall_mem_cons.mpr ⟨ok_iload_n F dX7_station_15 rfl (by decide), ?_⟩
  refine List.forall_mem_cons.mpr ⟨ok_table F dX7_station_16 (by decide +kernel) (by decide), ?_⟩
  refine List.forall_mem_cons.mpr ⟨ok_aload_n F dX7_station_92 rfl (by decide), ?_⟩
  refine List.forall_mem_cons.mpr ⟨ok_getf F flX7_7 dX7_station_93 (by decide), ?_⟩
  refine List.forall_mem_cons.mpr ⟨ok_iconst F dX7_station_96 (by decide) (by decide), ?_⟩
  refine List.forall_mem_cons.mpr ⟨ok_iald F dX7_station_97 (by decide), ?_⟩
  refine List.forall_mem_cons.mpr ⟨ok_iret F G dX7_station_98 (by decide), ?_⟩
  refine List.forall_mem_cons.mpr ⟨ok_aload_n F dX7_station_99 rfl (by decide), ?_⟩
  refine List.forall_mem_cons.mpr ⟨ok_getf F flX7_7 dX7_station_100 (by decide), ?_⟩
  refine List.forall_mem_cons.mpr ⟨ok_iconst F dX7_station_103 (by decide) (by decide), ?_⟩
  refine List.forall_mem_cons.mpr ⟨ok_iald F dX7_station_104 (by decide), ?_⟩
  refine List.forall_mem_cons.mpr ⟨ok_iret F G dX7_station_105 (by decide), ?_⟩
  refine List.forall_mem_cons.mpr ⟨ok_aload_n F dX7_station_106 rfl (by decide), ?_⟩
  refine List.forall_mem_cons.mpr ⟨ok_getf F flX7_7 dX7_station_107 (by decide), ?_⟩
  refine List.forall_mem_cons.mpr ⟨ok_iconst F dX7_station_110 (by decide) (by decide), ?_⟩
  refine List.forall_mem_cons.mpr ⟨ok_iald F dX7_station_111 (by decide), ?_⟩
  refine List.forall_mem_cons.mpr ⟨ok_iret F G dX7_station_112 (by decide), ?_⟩
  refine List.forall_mem_cons.mpr ⟨ok_aload_n F dX7_station_113 rfl (by decide), ?_⟩
  refine List.forall_mem_cons.mpr ⟨ok_callV F spok_X7_demand (ln_id aW) rcv_aW (by decide +kernel) (by decide) dX7_station_114 (by decide), ?_⟩
  refine List.forall_mem_cons.mpr ⟨ok_iret F G dX7_station_117 (by decide), ?_⟩
  refine List.forall_mem_cons.mpr ⟨ok_aload_n F dX7_station_118 rfl (by decide), ?_⟩
  refine List.forall_mem_cons.mpr ⟨ok_getf F flX7_7 dX7_station_119 (by decide), ?_⟩
  refine List.forall_mem_cons.mpr ⟨ok_iconst F dX7_station_122 (by decide) (by decide), ?_⟩
  refine List.forall_mem_cons.mpr ⟨ok_iald F dX7_station_123 (by decide), ?_⟩
  refine List.forall_mem_cons.mpr ⟨ok_iconst F dX7_station_124 (by decide) (by decide), ?_⟩
  refine List.forall_mem_cons.mpr ⟨ok_icmp_ne F dX7_station_125 (by decide) (by decide) (by decide), ?_⟩
  refine List.forall_mem_cons.mpr ⟨ok_ldc F (ix := 136) (wsHas_mem (l := [Jvm.Cond.constant RX7 136 (-1000004)]) (by decide +kernel) (by simp)) dX7_station_128 (by decide), ?_⟩
  refine List.forall_mem_cons.mpr ⟨ok_goto F dX7_station_130 (by decide) (by decide) (by decide), ?_⟩
  refine List.forall_mem_cons.mpr ⟨ok_aload_n F dX7_station_133 rfl (by decide), ?_⟩
  refine List.forall_mem_cons.mpr ⟨ok_getf F flX7_7 dX7_station_134 (by decide), ?_⟩
  refine List.forall_mem_cons.mpr ⟨ok_iconst F dX7_station_137 (by decide) (by decide), ?_⟩
  refine List.forall_mem_cons.mpr ⟨ok_iald F dX7_station_138 (by decide), ?_⟩
  refine List.forall_mem_cons.mpr ⟨ok_iret F G dX7_station_139 (by decide), ?_⟩
  refine List.forall_mem_cons.mpr ⟨ok_aload_n F dX7_station_140 rfl (by decide), ?_⟩
  refine List.forall_mem_cons.mpr ⟨ok_callV F spok_X7_running (ln_id aW) rcv_aW (by decide +kernel) (by decide) dX7_station_141 (by decide), ?_⟩
  refine List.forall_mem_cons.mpr ⟨ok_iret F G dX7_station_144 (by decide), ?_⟩
  refine List.forall_mem_cons.mpr ⟨ok_aload_n F dX7_station_145 rfl (by decide), ?_⟩
  refine List.forall_mem_cons.mpr ⟨ok_getf F flX7_7 dX7_station_146 (by decide), ?_⟩
  refine List.forall_mem_cons.mpr ⟨ok_bipush F dX7_station_149 (by decide) (by decide), ?_⟩
  refine List.forall_mem_cons.mpr ⟨ok_iald F dX7_station_151 (by decide), ?_⟩
  refine List.forall_mem_cons.mpr ⟨ok_iret F G dX7_station_152 (by decide), ?_⟩
  refine List.forall_mem_cons.mpr ⟨ok_aload_n F dX7_station_153 rfl (by decide), ?_⟩
  refine List.forall_mem_cons.mpr ⟨ok_getf F flX7_7 dX7_station_154 (by decide), ?_⟩
  refine List.forall_mem_cons.mpr ⟨ok_iconst F dX7_station_157 (by decide) (by decide), ?_⟩
  refine List.forall_mem_cons.mpr ⟨ok_iload_n F dX7_station_158 rfl (by decide), ?_⟩
  refine List.forall_mem_cons.mpr ⟨ok_iadd F dX7_station_159 (by decide), ?_⟩
  refine List.forall_mem_cons.mpr ⟨ok_bipush F dX7_station_160 (by decide) (by decide), ?_⟩
  refine List.forall_mem_cons.mpr ⟨ok_isub F dX7_station_162 (by decide), ?_⟩
  refine List.forall_mem_cons.mpr ⟨ok_iald F dX7_station_163 (by decide), ?_⟩
  refine List.forall_mem_cons.mpr ⟨ok_iret F G dX7_station_164 (by decide), ?_⟩
  exact fun _ h => absurd h List.not_mem_nil
set_option maxRecDepth 100000 in
theorem w_X7_station : (∀ (K : Kt QT) (n : Nat) (L : xL) (st : List Value) (S : QT), nx cod_X7_station cut_X7_station K (n + 1) 0 L st S = (O_iload 1 1) (nx cod_X7_station cut_X7_station K n) 0 L st S) ∧
  (∀ (K : Kt QT) (n : Nat) (L : xL) (st : List Value) (S : QT), nx cod_X7_station cut_X7_station K (n + 1) 1 L st S = (O_i2l) (nx cod_X7_station cut_X7_station K n) 1 L st S) ∧
  (∀ (K : Kt QT) (n : Nat) (L : xL) (st : List Value) (S : QT), nx cod_X7_station cut_X7_station K (n + 1) 2 L st S = (O_long 0 1) (nx cod_X7_station cut_X7_station K n) 2 L st S) ∧
  (∀ (K : Kt QT) (n : Nat) (L : xL) (st : List Value) (S : QT), nx cod_X7_station cut_X7_station K (n + 1) 3 L st S = (O_long 14 3) (nx cod_X7_station cut_X7_station K n) 3 L st S) ∧
  (∀ (K : Kt QT) (n : Nat) (L : xL) (st : List Value) (S : QT), nx cod_X7_station cut_X7_station K (n + 1) 6 L st S = (O_callS 3 sp_X7_in) (nx cod_X7_station cut_X7_station K n) 6 L st S) ∧
  (∀ (K : Kt QT) (n : Nat) (L : xL) (st : List Value) (S : QT), nx cod_X7_station cut_X7_station K (n + 1) 9 L st S = (O_if_ne 15) (nx cod_X7_station cut_X7_station K n) 9 L st S) ∧
  (∀ (K : Kt QT) (n : Nat) (L : xL) (st : List Value) (S : QT), nx cod_X7_station cut_X7_station K (n + 1) 12 L st S = (O_int (-1000001) 2) (nx cod_X7_station cut_X7_station K n) 12 L st S) ∧
  (∀ (K : Kt QT) (n : Nat) (L : xL) (st : List Value) (S : QT), nx cod_X7_station cut_X7_station K (n + 1) 14 L st S = (O_iret) (nx cod_X7_station cut_X7_station K n) 14 L st S) ∧
  (∀ (K : Kt QT) (n : Nat) (L : xL) (st : List Value) (S : QT), nx cod_X7_station cut_X7_station K (n + 1) 15 L st S = (O_iload 1 1) (nx cod_X7_station cut_X7_station K n) 15 L st S) ∧
  (∀ (K : Kt QT) (n : Nat) (L : xL) (st : List Value) (S : QT), nx cod_X7_station cut_X7_station K (n + 1) 16 L st S = (O_switch [(0, 92), (1, 99), (2, 106), (3, 113), (4, 118), (5, 140), (6, 153), (7, 153), (8, 153), (9, 153), (10, 153), (11, 153), (12, 153), (13, 153), (14, 145)] 153) (nx cod_X7_station cut_X7_station K n) 16 L st S) ∧
  (∀ (K : Kt QT) (n : Nat) (L : xL) (st : List Value) (S : QT), nx cod_X7_station cut_X7_station K (n + 1) 92 L st S = (O_aload 0 1) (nx cod_X7_station cut_X7_station K n) 92 L st S) ∧
  (∀ (K : Kt QT) (n : Nat) (L : xL) (st : List Value) (S : QT), nx cod_X7_station cut_X7_station K (n + 1) 93 L st S = (O_getf aW 7 0) (nx cod_X7_station cut_X7_station K n) 93 L st S) ∧
  (∀ (K : Kt QT) (n : Nat) (L : xL) (st : List Value) (S : QT), nx cod_X7_station cut_X7_station K (n + 1) 96 L st S = (O_int 1 1) (nx cod_X7_station cut_X7_station K n) 96 L st S) ∧
  (∀ (K : Kt QT) (n : Nat) (L : xL) (st : List Value) (S : QT), nx cod_X7_station cut_X7_station K (n + 1) 97 L st S = (O_ald aW 0) (nx cod_X7_station cut_X7_station K n) 97 L st S) ∧
  (∀ (K : Kt QT) (n : Nat) (L : xL) (st : List Value) (S : QT), nx cod_X7_station cut_X7_station K (n + 1) 98 L st S = (O_iret) (nx cod_X7_station cut_X7_station K n) 98 L st S) ∧
  (∀ (K : Kt QT) (n : Nat) (L : xL) (st : List Value) (S : QT), nx cod_X7_station cut_X7_station K (n + 1) 99 L st S = (O_aload 0 1) (nx cod_X7_station cut_X7_station K n) 99 L st S) ∧
  (∀ (K : Kt QT) (n : Nat) (L : xL) (st : List Value) (S : QT), nx cod_X7_station cut_X7_station K (n + 1) 100 L st S = (O_getf aW 7 0) (nx cod_X7_station cut_X7_station K n) 100 L st S) ∧
  (∀ (K : Kt QT) (n : Nat) (L : xL) (st : List Value) (S : QT), nx cod_X7_station cut_X7_station K (n + 1) 103 L st S = (O_int 2 1) (nx cod_X7_station cut_X7_station K n) 103 L st S) ∧
  (∀ (K : Kt QT) (n : Nat) (L : xL) (st : List Value) (S : QT), nx cod_X7_station cut_X7_station K (n + 1) 104 L st S = (O_ald aW 0) (nx cod_X7_station cut_X7_station K n) 104 L st S) ∧
  (∀ (K : Kt QT) (n : Nat) (L : xL) (st : List Value) (S : QT), nx cod_X7_station cut_X7_station K (n + 1) 105 L st S = (O_iret) (nx cod_X7_station cut_X7_station K n) 105 L st S) ∧
  (∀ (K : Kt QT) (n : Nat) (L : xL) (st : List Value) (S : QT), nx cod_X7_station cut_X7_station K (n + 1) 106 L st S = (O_aload 0 1) (nx cod_X7_station cut_X7_station K n) 106 L st S) ∧
  (∀ (K : Kt QT) (n : Nat) (L : xL) (st : List Value) (S : QT), nx cod_X7_station cut_X7_station K (n + 1) 107 L st S = (O_getf aW 7 0) (nx cod_X7_station cut_X7_station K n) 107 L st S) ∧
  (∀ (K : Kt QT) (n : Nat) (L : xL) (st : List Value) (S : QT), nx cod_X7_station cut_X7_station K (n + 1) 110 L st S = (O_int 3 1) (nx cod_X7_station cut_X7_station K n) 110 L st S) ∧
  (∀ (K : Kt QT) (n : Nat) (L : xL) (st : List Value) (S : QT), nx cod_X7_station cut_X7_station K (n + 1) 111 L st S = (O_ald aW 0) (nx cod_X7_station cut_X7_station K n) 111 L st S) ∧
  (∀ (K : Kt QT) (n : Nat) (L : xL) (st : List Value) (S : QT), nx cod_X7_station cut_X7_station K (n + 1) 112 L st S = (O_iret) (nx cod_X7_station cut_X7_station K n) 112 L st S) ∧
  (∀ (K : Kt QT) (n : Nat) (L : xL) (st : List Value) (S : QT), nx cod_X7_station cut_X7_station K (n + 1) 113 L st S = (O_aload 0 1) (nx cod_X7_station cut_X7_station K n) 113 L st S) ∧
  (∀ (K : Kt QT) (n : Nat) (L : xL) (st : List Value) (S : QT), nx cod_X7_station cut_X7_station K (n + 1) 114 L st S = (O_callV 0 0 (fun S => S) (fun _ S' => S') sp_X7_demand) (nx cod_X7_station cut_X7_station K n) 114 L st S) ∧
  (∀ (K : Kt QT) (n : Nat) (L : xL) (st : List Value) (S : QT), nx cod_X7_station cut_X7_station K (n + 1) 117 L st S = (O_iret) (nx cod_X7_station cut_X7_station K n) 117 L st S) ∧
  (∀ (K : Kt QT) (n : Nat) (L : xL) (st : List Value) (S : QT), nx cod_X7_station cut_X7_station K (n + 1) 118 L st S = (O_aload 0 1) (nx cod_X7_station cut_X7_station K n) 118 L st S) ∧
  (∀ (K : Kt QT) (n : Nat) (L : xL) (st : List Value) (S : QT), nx cod_X7_station cut_X7_station K (n + 1) 119 L st S = (O_getf aW 7 0) (nx cod_X7_station cut_X7_station K n) 119 L st S) ∧
  (∀ (K : Kt QT) (n : Nat) (L : xL) (st : List Value) (S : QT), nx cod_X7_station cut_X7_station K (n + 1) 122 L st S = (O_int 4 1) (nx cod_X7_station cut_X7_station K n) 122 L st S) ∧
  (∀ (K : Kt QT) (n : Nat) (L : xL) (st : List Value) (S : QT), nx cod_X7_station cut_X7_station K (n + 1) 123 L st S = (O_ald aW 0) (nx cod_X7_station cut_X7_station K n) 123 L st S) ∧
  (∀ (K : Kt QT) (n : Nat) (L : xL) (st : List Value) (S : QT), nx cod_X7_station cut_X7_station K (n + 1) 124 L st S = (O_int (-1) 1) (nx cod_X7_station cut_X7_station K n) 124 L st S) ∧
  (∀ (K : Kt QT) (n : Nat) (L : xL) (st : List Value) (S : QT), nx cod_X7_station cut_X7_station K (n + 1) 125 L st S = (O_icmp_ne 133) (nx cod_X7_station cut_X7_station K n) 125 L st S) ∧
  (∀ (K : Kt QT) (n : Nat) (L : xL) (st : List Value) (S : QT), nx cod_X7_station cut_X7_station K (n + 1) 128 L st S = (O_int (-1000004) 2) (nx cod_X7_station cut_X7_station K n) 128 L st S) ∧
  (∀ (K : Kt QT) (n : Nat) (L : xL) (st : List Value) (S : QT), nx cod_X7_station cut_X7_station K (n + 1) 130 L st S = (O_goto 139) (nx cod_X7_station cut_X7_station K n) 130 L st S) ∧
  (∀ (K : Kt QT) (n : Nat) (L : xL) (st : List Value) (S : QT), nx cod_X7_station cut_X7_station K (n + 1) 133 L st S = (O_aload 0 1) (nx cod_X7_station cut_X7_station K n) 133 L st S) ∧
  (∀ (K : Kt QT) (n : Nat) (L : xL) (st : List Value) (S : QT), nx cod_X7_station cut_X7_station K (n + 1) 134 L st S = (O_getf aW 7 0) (nx cod_X7_station cut_X7_station K n) 134 L st S) ∧
  (∀ (K : Kt QT) (n : Nat) (L : xL) (st : List Value) (S : QT), nx cod_X7_station cut_X7_station K (n + 1) 137 L st S = (O_int 4 1) (nx cod_X7_station cut_X7_station K n) 137 L st S) ∧
  (∀ (K : Kt QT) (n : Nat) (L : xL) (st : List Value) (S : QT), nx cod_X7_station cut_X7_station K (n + 1) 138 L st S = (O_ald aW 0) (nx cod_X7_station cut_X7_station K n) 138 L st S) ∧
  (∀ (K : Kt QT) (n : Nat) (L : xL) (st : List Value) (S : QT), nx cod_X7_station cut_X7_station K (n + 1) 139 L st S = (O_iret) (nx cod_X7_station cut_X7_station K n) 139 L st S) ∧
  (∀ (K : Kt QT) (n : Nat) (L : xL) (st : List Value) (S : QT), nx cod_X7_station cut_X7_station K (n + 1) 140 L st S = (O_aload 0 1) (nx cod_X7_station cut_X7_station K n) 140 L st S) ∧
  (∀ (K : Kt QT) (n : Nat) (L : xL) (st : List Value) (S : QT), nx cod_X7_station cut_X7_station K (n + 1) 141 L st S = (O_callV 0 0 (fun S => S) (fun _ S' => S') sp_X7_running) (nx cod_X7_station cut_X7_station K n) 141 L st S) ∧
  (∀ (K : Kt QT) (n : Nat) (L : xL) (st : List Value) (S : QT), nx cod_X7_station cut_X7_station K (n + 1) 144 L st S = (O_iret) (nx cod_X7_station cut_X7_station K n) 144 L st S) ∧
  (∀ (K : Kt QT) (n : Nat) (L : xL) (st : List Value) (S : QT), nx cod_X7_station cut_X7_station K (n + 1) 145 L st S = (O_aload 0 1) (nx cod_X7_station cut_X7_station K n) 145 L st S) ∧
  (∀ (K : Kt QT) (n : Nat) (L : xL) (st : List Value) (S : QT), nx cod_X7_station cut_X7_station K (n + 1) 146 L st S = (O_getf aW 7 0) (nx cod_X7_station cut_X7_station K n) 146 L st S) ∧
  (∀ (K : Kt QT) (n : Nat) (L : xL) (st : List Value) (S : QT), nx cod_X7_station cut_X7_station K (n + 1) 149 L st S = (O_int 13 2) (nx cod_X7_station cut_X7_station K n) 149 L st S) ∧
  (∀ (K : Kt QT) (n : Nat) (L : xL) (st : List Value) (S : QT), nx cod_X7_station cut_X7_station K (n + 1) 151 L st S = (O_ald aW 0) (nx cod_X7_station cut_X7_station K n) 151 L st S) ∧
  (∀ (K : Kt QT) (n : Nat) (L : xL) (st : List Value) (S : QT), nx cod_X7_station cut_X7_station K (n + 1) 152 L st S = (O_iret) (nx cod_X7_station cut_X7_station K n) 152 L st S) ∧
  (∀ (K : Kt QT) (n : Nat) (L : xL) (st : List Value) (S : QT), nx cod_X7_station cut_X7_station K (n + 1) 153 L st S = (O_aload 0 1) (nx cod_X7_station cut_X7_station K n) 153 L st S) ∧
  (∀ (K : Kt QT) (n : Nat) (L : xL) (st : List Value) (S : QT), nx cod_X7_station cut_X7_station K (n + 1) 154 L st S = (O_getf aW 7 0) (nx cod_X7_station cut_X7_station K n) 154 L st S) ∧
  (∀ (K : Kt QT) (n : Nat) (L : xL) (st : List Value) (S : QT), nx cod_X7_station cut_X7_station K (n + 1) 157 L st S = (O_int 5 1) (nx cod_X7_station cut_X7_station K n) 157 L st S) ∧
  (∀ (K : Kt QT) (n : Nat) (L : xL) (st : List Value) (S : QT), nx cod_X7_station cut_X7_station K (n + 1) 158 L st S = (O_iload 1 1) (nx cod_X7_station cut_X7_station K n) 158 L st S) ∧
  (∀ (K : Kt QT) (n : Nat) (L : xL) (st : List Value) (S : QT), nx cod_X7_station cut_X7_station K (n + 1) 159 L st S = (O_iadd) (nx cod_X7_station cut_X7_station K n) 159 L st S) ∧
  (∀ (K : Kt QT) (n : Nat) (L : xL) (st : List Value) (S : QT), nx cod_X7_station cut_X7_station K (n + 1) 160 L st S = (O_int 6 2) (nx cod_X7_station cut_X7_station K n) 160 L st S) ∧
  (∀ (K : Kt QT) (n : Nat) (L : xL) (st : List Value) (S : QT), nx cod_X7_station cut_X7_station K (n + 1) 162 L st S = (O_isub) (nx cod_X7_station cut_X7_station K n) 162 L st S) ∧
  (∀ (K : Kt QT) (n : Nat) (L : xL) (st : List Value) (S : QT), nx cod_X7_station cut_X7_station K (n + 1) 163 L st S = (O_ald aW 0) (nx cod_X7_station cut_X7_station K n) 163 L st S) ∧
  (∀ (K : Kt QT) (n : Nat) (L : xL) (st : List Value) (S : QT), nx cod_X7_station cut_X7_station K (n + 1) 164 L st S = (O_iret) (nx cod_X7_station cut_X7_station K n) 164 L st S) ∧
  (∀ (K : Kt QT) (n : Nat) (L : xL) (st : List Value) (S : QT), nx cod_X7_station cut_X7_station K (n + 1) 100000 L st S = K 100000 L st S) := by
  repeat' apply And.intro
  all_goals (intros; rfl)
set_option maxRecDepth 100000 in
theorem mk_X7_station {P P' : QT} {r : Option Value} {p0 : Int32} (body : ∀ E : En, CodOk E aW cod_X7_station → Gd E aW 100000 [] r.toList P' → Gd E aW 0 [some (.ref 0), some (.int p0)] [] P) : Con yX7_station cX7_station 2 (some .int) 3 aW [.ref 0, .int p0] P r P' :=
  Con.of (by decide) ((aW_len P').trans (aW_len P).symm) rfl (Nat.le_of_ble_eq_true rfl) (fun E F G hr => body E (okc_X7_station F G) hr)
set_option maxRecDepth 10000 in
theorem con_X7_station (S : ST) (M : MT) (fl : Bool) (w : Int32) (hp : S.inv 1) : Con yX7_station cX7_station 2 (some .int) 3 aW [.ref 0, .int w] (S, M, fl) (some (.int (S.tell w))) ((S, M, fl)) := by
  refine mk_X7_station (fun E C hr => ?_)
  have hP := hp.1.1
  have hz := hp.2.1.1
  have hb := hp.2.1.2.1
  have hd : (if S.dry = 0 then (0 : Int32) else 1) = S.dry := by
    rcases hp.2.2.2.1 with q | q <;> rw [q] <;> rfl
  clear hp
  by_cases c : inR w 0 14 = true
  · unfold ST.tell at hr
    rw [hd] at hr
    clear hd
    rcases wlit14 c with rfl | rfl | rfl | rfl | rfl | rfl | rfl | rfl | rfl | rfl | rfl | rfl | rfl | rfl | rfl
    · have hr : Gd E aW 100000 [] [.int S.pressure] (S, M, fl) := hr
      (refine nx_ok C (cuts := cut_X7_station) 1000 _ _ _ _ ?_; simp only [w_X7_station, ops_eq, xst_eq, call_eq, oK_eq, Option.toList_some, Option.toList_none, List.cons_append, List.nil_append, List.length_cons, List.length_nil, true_and, and_true, Nat.reduceAdd, aW_F, aW_A, aW_P, aW_w, abs_eq, O_asti_eq, v170, cl_eq, ST_id, MT_gs, ST_gs, PT_gs, ZT_gs, NT_gs, ET_gs, se_X7_in, se_X7_demand, se_X7_running, bI_eq, inL_lit, c])
      ((repeat' (with_reducible first | apply And.intro | intro _)) <;> first | (with_reducible assumption) | (with_reducible exact Nat.zero_le _) | contradiction | (simp only [Option.toList_none, Option.toList_some] at hr; with_reducible assumption) | (simp_all; done) | assumption)
    · have hr : Gd E aW 100000 [] [.int S.level] (S, M, fl) := hr
      (refine nx_ok C (cuts := cut_X7_station) 1000 _ _ _ _ ?_; simp only [w_X7_station, ops_eq, xst_eq, call_eq, oK_eq, Option.toList_some, Option.toList_none, List.cons_append, List.nil_append, List.length_cons, List.length_nil, true_and, and_true, Nat.reduceAdd, aW_F, aW_A, aW_P, aW_w, abs_eq, O_asti_eq, v170, cl_eq, ST_id, MT_gs, ST_gs, PT_gs, ZT_gs, NT_gs, ET_gs, se_X7_in, se_X7_demand, se_X7_running, bI_eq, inL_lit, c])
      ((repeat' (with_reducible first | apply And.intro | intro _)) <;> first | (with_reducible assumption) | (with_reducible exact Nat.zero_le _) | contradiction | (simp only [Option.toList_none, Option.toList_some] at hr; with_reducible assumption) | (simp_all; done) | assumption)
    · have hr : Gd E aW 100000 [] [.int S.supply] (S, M, fl) := hr
      (refine nx_ok C (cuts := cut_X7_station) 1000 _ _ _ _ ?_; simp only [w_X7_station, ops_eq, xst_eq, call_eq, oK_eq, Option.toList_some, Option.toList_none, List.cons_append, List.nil_append, List.length_cons, List.length_nil, true_and, and_true, Nat.reduceAdd, aW_F, aW_A, aW_P, aW_w, abs_eq, O_asti_eq, v170, cl_eq, ST_id, MT_gs, ST_gs, PT_gs, ZT_gs, NT_gs, ET_gs, se_X7_in, se_X7_demand, se_X7_running, bI_eq, inL_lit, c])
      ((repeat' (with_reducible first | apply And.intro | intro _)) <;> first | (with_reducible assumption) | (with_reducible exact Nat.zero_le _) | contradiction | (simp only [Option.toList_none, Option.toList_some] at hr; with_reducible assumption) | (simp_all; done) | assumption)
    · have hr : Gd E aW 100000 [] [.int S.demand] (S, M, fl) := hr
      (refine nx_ok C (cuts := cut_X7_station) 1000 _ _ _ _ ?_; simp only [w_X7_station, ops_eq, xst_eq, call_eq, oK_eq, Option.toList_some, Option.toList_none, List.cons_append, List.nil_append, List.length_cons, List.length_nil, true_and, and_true, Nat.reduceAdd, aW_F, aW_A, aW_P, aW_w, abs_eq, O_asti_eq, v170, cl_eq, ST_id, MT_gs, ST_gs, PT_gs, ZT_gs, NT_gs, ET_gs, se_X7_in, se_X7_demand, se_X7_running, bI_eq, inL_lit, c, hz, hb])
      ((repeat' (with_reducible first | apply And.intro | intro _)) <;> first | (with_reducible assumption) | (with_reducible exact Nat.zero_le _) | contradiction | (simp only [Option.toList_none, Option.toList_some] at hr; with_reducible assumption) | (simp_all; done) | assumption)
    · have hr : Gd E aW 100000 [] [.int (if S.P.vrb = -1 then -1000004 else S.P.vrb)] (S, M, fl) := hr
      by_cases d : S.P.vrb = -1
      · rw [if_pos d] at hr
        (refine nx_ok C (cuts := cut_X7_station) 1000 _ _ _ _ ?_; simp only [w_X7_station, ops_eq, xst_eq, call_eq, oK_eq, Option.toList_some, Option.toList_none, List.cons_append, List.nil_append, List.length_cons, List.length_nil, true_and, and_true, Nat.reduceAdd, aW_F, aW_A, aW_P, aW_w, abs_eq, O_asti_eq, v170, cl_eq, ST_id, MT_gs, ST_gs, PT_gs, ZT_gs, NT_gs, ET_gs, se_X7_in, se_X7_demand, se_X7_running, bI_eq, inL_lit, c, d])
        ((repeat' (with_reducible first | apply And.intro | intro _)) <;> first | (with_reducible assumption) | (with_reducible exact Nat.zero_le _) | contradiction | (simp only [Option.toList_none, Option.toList_some] at hr; with_reducible assumption) | (simp_all; done) | assumption)
      · rw [if_neg d] at hr
        (refine nx_ok C (cuts := cut_X7_station) 1000 _ _ _ _ ?_; simp only [w_X7_station, ops_eq, xst_eq, call_eq, oK_eq, Option.toList_some, Option.toList_none, List.cons_append, List.nil_append, List.length_cons, List.length_nil, true_and, and_true, Nat.reduceAdd, aW_F, aW_A, aW_P, aW_w, abs_eq, O_asti_eq, v170, cl_eq, ST_id, MT_gs, ST_gs, PT_gs, ZT_gs, NT_gs, ET_gs, se_X7_in, se_X7_demand, se_X7_running, bI_eq, inL_lit, c, d])
        ((repeat' (with_reducible first | apply And.intro | intro _)) <;> first | (with_reducible assumption) | (with_reducible exact Nat.zero_le _) | contradiction | (simp only [Option.toList_none, Option.toList_some] at hr; with_reducible assumption) | (simp_all; done) | assumption)
    · have hr : Gd E aW 100000 [] [.int S.P.running] (S, M, fl) := hr
      (refine nx_ok C (cuts := cut_X7_station) 1000 _ _ _ _ ?_; simp only [w_X7_station, ops_eq, xst_eq, call_eq, oK_eq, Option.toList_some, Option.toList_none, List.cons_append, List.nil_append, List.length_cons, List.length_nil, true_and, and_true, Nat.reduceAdd, aW_F, aW_A, aW_P, aW_w, abs_eq, O_asti_eq, v170, cl_eq, ST_id, MT_gs, ST_gs, PT_gs, ZT_gs, NT_gs, ET_gs, se_X7_in, se_X7_demand, se_X7_running, bI_eq, inL_lit, c, hP])
      ((repeat' (with_reducible first | apply And.intro | intro _)) <;> first | (with_reducible assumption) | (with_reducible exact Nat.zero_le _) | contradiction | (simp only [Option.toList_none, Option.toList_some] at hr; with_reducible assumption) | (simp_all; done) | assumption)
    · have hr : Gd E aW 100000 [] [.int S.dry] (S, M, fl) := hr
      (refine nx_ok C (cuts := cut_X7_station) 1000 _ _ _ _ ?_; simp only [w_X7_station, ops_eq, xst_eq, call_eq, oK_eq, Option.toList_some, Option.toList_none, List.cons_append, List.nil_append, List.length_cons, List.length_nil, true_and, and_true, Nat.reduceAdd, aW_F, aW_A, aW_P, aW_w, abs_eq, O_asti_eq, v170, cl_eq, ST_id, MT_gs, ST_gs, PT_gs, ZT_gs, NT_gs, ET_gs, se_X7_in, se_X7_demand, se_X7_running, bI_eq, inL_lit, c, st_idx])
      ((repeat' (with_reducible first | apply And.intro | intro _)) <;> first | (with_reducible assumption) | (with_reducible exact Nat.zero_le _) | contradiction | (simp only [Option.toList_none, Option.toList_some] at hr; with_reducible assumption) | (simp_all; done) | assumption)
    · have hr : Gd E aW 100000 [] [.int S.trips] (S, M, fl) := hr
      (refine nx_ok C (cuts := cut_X7_station) 1000 _ _ _ _ ?_; simp only [w_X7_station, ops_eq, xst_eq, call_eq, oK_eq, Option.toList_some, Option.toList_none, List.cons_append, List.nil_append, List.length_cons, List.length_nil, true_and, and_true, Nat.reduceAdd, aW_F, aW_A, aW_P, aW_w, abs_eq, O_asti_eq, v170, cl_eq, ST_id, MT_gs, ST_gs, PT_gs, ZT_gs, NT_gs, ET_gs, se_X7_in, se_X7_demand, se_X7_running, bI_eq, inL_lit, c, st_idx])
      ((repeat' (with_reducible first | apply And.intro | intro _)) <;> first | (with_reducible assumption) | (with_reducible exact Nat.zero_le _) | contradiction | (simp only [Option.toList_none, Option.toList_some] at hr; with_reducible assumption) | (simp_all; done) | assumption)
    · have hr : Gd E aW 100000 [] [.int S.dryMinutes] (S, M, fl) := hr
      (refine nx_ok C (cuts := cut_X7_station) 1000 _ _ _ _ ?_; simp only [w_X7_station, ops_eq, xst_eq, call_eq, oK_eq, Option.toList_some, Option.toList_none, List.cons_append, List.nil_append, List.length_cons, List.length_nil, true_and, and_true, Nat.reduceAdd, aW_F, aW_A, aW_P, aW_w, abs_eq, O_asti_eq, v170, cl_eq, ST_id, MT_gs, ST_gs, PT_gs, ZT_gs, NT_gs, ET_gs, se_X7_in, se_X7_demand, se_X7_running, bI_eq, inL_lit, c, st_idx])
      ((repeat' (with_reducible first | apply And.intro | intro _)) <;> first | (with_reducible assumption) | (with_reducible exact Nat.zero_le _) | contradiction | (simp only [Option.toList_none, Option.toList_some] at hr; with_reducible assumption) | (simp_all; done) | assumption)
    · have hr : Gd E aW 100000 [] [.int S.N.flow] (S, M, fl) := hr
      (refine nx_ok C (cuts := cut_X7_station) 1000 _ _ _ _ ?_; simp only [w_X7_station, ops_eq, xst_eq, call_eq, oK_eq, Option.toList_some, Option.toList_none, List.cons_append, List.nil_append, List.length_cons, List.length_nil, true_and, and_true, Nat.reduceAdd, aW_F, aW_A, aW_P, aW_w, abs_eq, O_asti_eq, v170, cl_eq, ST_id, MT_gs, ST_gs, PT_gs, ZT_gs, NT_gs, ET_gs, se_X7_in, se_X7_demand, se_X7_running, bI_eq, inL_lit, c, st_idx])
      ((repeat' (with_reducible first | apply And.intro | intro _)) <;> first | (with_reducible assumption) | (with_reducible exact Nat.zero_le _) | contradiction | (simp only [Option.toList_none, Option.toList_some] at hr; with_reducible assumption) | (simp_all; done) | assumption)
    · have hr : Gd E aW 100000 [] [.int S.N.alarms] (S, M, fl) := hr
      (refine nx_ok C (cuts := cut_X7_station) 1000 _ _ _ _ ?_; simp only [w_X7_station, ops_eq, xst_eq, call_eq, oK_eq, Option.toList_some, Option.toList_none, List.cons_append, List.nil_append, List.length_cons, List.length_nil, true_and, and_true, Nat.reduceAdd, aW_F, aW_A, aW_P, aW_w, abs_eq, O_asti_eq, v170, cl_eq, ST_id, MT_gs, ST_gs, PT_gs, ZT_gs, NT_gs, ET_gs, se_X7_in, se_X7_demand, se_X7_running, bI_eq, inL_lit, c, st_idx])
      ((repeat' (with_reducible first | apply And.intro | intro _)) <;> first | (with_reducible assumption) | (with_reducible exact Nat.zero_le _) | contradiction | (simp only [Option.toList_none, Option.toList_some] at hr; with_reducible assumption) | (simp_all; done) | assumption)
    · have hr : Gd E aW 100000 [] [.int S.toStart] (S, M, fl) := hr
      (refine nx_ok C (cuts := cut_X7_station) 1000 _ _ _ _ ?_; simp only [w_X7_station, ops_eq, xst_eq, call_eq, oK_eq, Option.toList_some, Option.toList_none, List.cons_append, List.nil_append, List.length_cons, List.length_nil, true_and, and_true, Nat.reduceAdd, aW_F, aW_A, aW_P, aW_w, abs_eq, O_asti_eq, v170, cl_eq, ST_id, MT_gs, ST_gs, PT_gs, ZT_gs, NT_gs, ET_gs, se_X7_in, se_X7_demand, se_X7_running, bI_eq, inL_lit, c, st_idx])
      ((repeat' (with_reducible first | apply And.intro | intro _)) <;> first | (with_reducible assumption) | (with_reducible exact Nat.zero_le _) | contradiction | (simp only [Option.toList_none, Option.toList_some] at hr; with_reducible assumption) | (simp_all; done) | assumption)
    · have hr : Gd E aW 100000 [] [.int S.toStop] (S, M, fl) := hr
      (refine nx_ok C (cuts := cut_X7_station) 1000 _ _ _ _ ?_; simp only [w_X7_station, ops_eq, xst_eq, call_eq, oK_eq, Option.toList_some, Option.toList_none, List.cons_append, List.nil_append, List.length_cons, List.length_nil, true_and, and_true, Nat.reduceAdd, aW_F, aW_A, aW_P, aW_w, abs_eq, O_asti_eq, v170, cl_eq, ST_id, MT_gs, ST_gs, PT_gs, ZT_gs, NT_gs, ET_gs, se_X7_in, se_X7_demand, se_X7_running, bI_eq, inL_lit, c, st_idx])
      ((repeat' (with_reducible first | apply And.intro | intro _)) <;> first | (with_reducible assumption) | (with_reducible exact Nat.zero_le _) | contradiction | (simp only [Option.toList_none, Option.toList_some] at hr; with_reducible assumption) | (simp_all; done) | assumption)
    · have hr : Gd E aW 100000 [] [.int S.toSleep] (S, M, fl) := hr
      (refine nx_ok C (cuts := cut_X7_station) 1000 _ _ _ _ ?_; simp only [w_X7_station, ops_eq, xst_eq, call_eq, oK_eq, Option.toList_some, Option.toList_none, List.cons_append, List.nil_append, List.length_cons, List.length_nil, true_and, and_true, Nat.reduceAdd, aW_F, aW_A, aW_P, aW_w, abs_eq, O_asti_eq, v170, cl_eq, ST_id, MT_gs, ST_gs, PT_gs, ZT_gs, NT_gs, ET_gs, se_X7_in, se_X7_demand, se_X7_running, bI_eq, inL_lit, c, st_idx])
      ((repeat' (with_reducible first | apply And.intro | intro _)) <;> first | (with_reducible assumption) | (with_reducible exact Nat.zero_le _) | contradiction | (simp only [Option.toList_none, Option.toList_some] at hr; with_reducible assumption) | (simp_all; done) | assumption)
    · have hr : Gd E aW 100000 [] [.int S.allSupplied] (S, M, fl) := hr
      (refine nx_ok C (cuts := cut_X7_station) 1000 _ _ _ _ ?_; simp only [w_X7_station, ops_eq, xst_eq, call_eq, oK_eq, Option.toList_some, Option.toList_none, List.cons_append, List.nil_append, List.length_cons, List.length_nil, true_and, and_true, Nat.reduceAdd, aW_F, aW_A, aW_P, aW_w, abs_eq, O_asti_eq, v170, cl_eq, ST_id, MT_gs, ST_gs, PT_gs, ZT_gs, NT_gs, ET_gs, se_X7_in, se_X7_demand, se_X7_running, bI_eq, inL_lit, c, st_idx])
      ((repeat' (with_reducible first | apply And.intro | intro _)) <;> first | (with_reducible assumption) | (with_reducible exact Nat.zero_le _) | contradiction | (simp only [Option.toList_none, Option.toList_some] at hr; with_reducible assumption) | (simp_all; done) | assumption)
  · have hk : ∀ n, n ≤ 14 → inR (nI n) 0 14 = true := by decide
    have hw : ∀ n, n ≤ 14 → ¬ w = nI n := fun n hn e => c (by rw [e]; exact hk n hn)
    have e : S.tell w = -1000001 := by
      unfold ST.tell
      rw [if_neg (show ¬ w = 0 from hw 0 (by omega)), if_neg (show ¬ w = 1 from hw 1 (by omega)), if_neg (show ¬ w = 2 from hw 2 (by omega)), if_neg (show ¬ w = 3 from hw 3 (by omega)), if_neg (show ¬ w = 4 from hw 4 (by omega)), if_neg (show ¬ w = 5 from hw 5 (by omega)), if_neg (show ¬ w = 6 from hw 6 (by omega)), if_neg (show ¬ w = 7 from hw 7 (by omega)), if_neg (show ¬ w = 8 from hw 8 (by omega)), if_neg (show ¬ w = 9 from hw 9 (by omega)), if_neg (show ¬ w = 10 from hw 10 (by omega)), if_neg (show ¬ w = 11 from hw 11 (by omega)), if_neg (show ¬ w = 12 from hw 12 (by omega)), if_neg (show ¬ w = 13 from hw 13 (by omega)), if_neg (show ¬ w = 14 from hw 14 (by omega))]
    rw [e] at hr
    have c := bnot c
    clear hw
    (refine nx_ok C (cuts := cut_X7_station) 1000 _ _ _ _ ?_; simp only [w_X7_station, ops_eq, xst_eq, call_eq, oK_eq, Option.toList_some, Option.toList_none, List.cons_append, List.nil_append, List.length_cons, List.length_nil, true_and, and_true, Nat.reduceAdd, aW_F, aW_A, aW_P, aW_w, abs_eq, O_asti_eq, v170, cl_eq, ST_id, MT_gs, ST_gs, PT_gs, ZT_gs, NT_gs, ET_gs, se_X7_in, se_X7_demand, se_X7_running, bI_eq, inL_lit, c])
    ((repeat' (with_reducible first | apply And.intro | intro _)) <;> first | (with_reducible assumption) | (with_reducible exact Nat.zero_le _) | contradiction | (simp only [Option.toList_none, Option.toList_some] at hr; with_reducible assumption) | (simp_all; done) | assumption)
def spc_X7_station (S : ST) (M : MT) (fl : Bool) (w : Int32) (K : Option Value → QT → Prop) : Prop := (S.inv 1) ∧ K (some (.int (S.tell w))) ((S, M, fl))
def sp_X7_station : Sp QT := fun av q K => match av with
  | [.ref 0, .int w] => spc_X7_station q.1 q.2.1 q.2.2 w K
  | _ => False
theorem se_X7_station (S : ST) (M : MT) (fl : Bool) (w : Int32) (K : Option Value → QT → Prop) : sp_X7_station [.ref 0, .int w] (S, M, fl) K = ((S.inv 1) ∧ K (some (.int (S.tell w))) ((S, M, fl))) := rfl
theorem spok_X7_station : SpOk yX7_station cX7_station 2 (some .int) 3 aW sp_X7_station := by
  intro av q K h
  unfold sp_X7_station at h
  split at h
  · rename_i w; refine ⟨_, _, ?_, con_X7_station q.1 q.2.1 q.2.2 w h.1, h.2⟩; trivial
  · exact h.elim
def cnt7 (S : ST) (M : MT) (w : Int32) : Int32 := if inR w 20 38 = true then S.settings (w - 20).toNatClampNeg else if w = 0 then S.P.size else if w = 1 then S.Z.size else if w = 2 then S.Z.programmes else if w = 3 then S.Z.openOnes else if w = 4 then S.P.readyOnes else if w = 5 then S.N.size else if w = 6 then S.E.kept else if w = 7 then S.time else if w = 8 then S.time % 1440 else if w = 9 then M.savedMany else if w = 10 then M.textLong else -1000001
theorem wlit10 {w : Int32} (h : inR w 0 10 = true) : w = 0 ∨ w = 1 ∨ w = 2 ∨ w = 3 ∨ w = 4 ∨ w = 5 ∨ w = 6 ∨ w = 7 ∨ w = 8 ∨ w = 9 ∨ w = 10 := by
  obtain ⟨n, hn, rfl, _⟩ := inR_nI (b := 10) h (by omega)
  have key : ∀ n, n ≤ 10 → nI n = 0 ∨ nI n = 1 ∨ nI n = 2 ∨ nI n = 3 ∨ nI n = 4 ∨ nI n = 5 ∨ nI n = 6 ∨ nI n = 7 ∨ nI n = 8 ∨ nI n = 9 ∨ nI n = 10 := by decide
  exact key n hn
def cod_X7_count : List (Nat × Op QT) := [(0, O_iload 1 1), (1, O_switch [(0, 60), (1, 60), (2, 60), (3, 70), (4, 75), (5, 80), (6, 80), (7, 92), (8, 99), (9, 104), (10, 109)] 114), (60, O_aload 0 1), (61, O_getf aW 7 0), (64, O_int 14 2), (66, O_iload 1 1), (67, O_iadd), (68, O_ald aW 0), (69, O_iret), (70, O_aload 0 1), (71, O_callV 0 0 (fun S => S) (fun _ S' => S') sp_X7_openZones), (74, O_iret), (75, O_aload 0 1), (76, O_callV 0 0 (fun S => S) (fun _ S' => S') sp_X7_readyPumps), (79, O_iret), (80, O_aload 0 1), (81, O_getf aW 7 0), (84, O_int 18 2), (86, O_iload 1 1), (87, O_iadd), (88, O_int 5 1), (89, O_isub), (90, O_ald aW 0), (91, O_iret), (92, O_aload 0 1), (93, O_getf aW 7 0), (96, O_int 0 1), (97, O_ald aW 0), (98, O_iret), (99, O_aload 0 1), (100, O_callV 0 0 (fun S => S) (fun _ S' => S') sp_X7_minuteOfDay), (103, O_iret), (104, O_aload 0 1), (105, O_getf aW 7 2), (108, O_iret), (109, O_aload 0 1), (110, O_getf aW 7 6), (113, O_iret), (114, O_iload 1 1), (115, O_i2l), (116, O_long 20 3), (119, O_long 38 3), (122, O_callS 3 sp_X7_in), (125, O_if_eq 139), (128, O_aload 0 1), (129, O_iload 1 1), (130, O_int 20 2), (132, O_isub), (133, O_callV 1 0 (fun S => S) (fun _ S' => S') sp_X7_setting), (136, O_goto 141), (139, O_int (-1000001) 2), (141, O_iret)]
abbrev cut_X7_count : List Nat := []
set_option maxRecDepth 100000 in
theorem okc_X7_count {E : En} (F : Fx E RX7 cX7_count 2 4) (G : Fr E (some .int)) : CodOk E aW cod_X7_count := by
  unfold CodOk cod_X7_count
  refine List.forall_mem_cons.mpr ⟨ok_iload_n F dX7_count_0 rfl (by decide), ?_⟩
  refine List.forall_mem_cons.mpr ⟨ok_table F dX7_count_1 (by decide +kernel) (by decide), ?_⟩
  refine List.forall_mem_cons.mpr ⟨ok_aload_n F dX7_count_60 rfl (by decide), ?_⟩
  refine List.forall_mem_cons.mpr ⟨ok_getf F flX7_7 dX7_count_61 (by decide), ?_⟩
  refine List.forall_mem_cons.mpr ⟨ok_bipush F dX7_count_64 (by decide) (by decide), ?_⟩
  refine List.forall_mem_cons.mpr ⟨ok_iload_n F dX7_count_66 rfl (by decide), ?_⟩
  refine List.forall_mem_cons.mpr ⟨ok_iadd F dX7_count_67 (by decide), ?_⟩
  refine List.forall_mem_cons.mpr ⟨ok_iald F dX7_count_68 (by decide), ?_⟩
  refine List.forall_mem_cons.mpr ⟨ok_iret F G dX7_count_69 (by decide), ?_⟩
  refine List.forall_mem_cons.mpr ⟨ok_aload_n F dX7_count_70 rfl (by decide), ?_⟩
  refine List.forall_mem_cons.mpr ⟨ok_callV F spok_X7_openZones (ln_id aW) rcv_aW (by decide +kernel) (by decide) dX7_count_71 (by decide), ?_⟩
  refine List.forall_mem_cons.mpr ⟨ok_iret F G dX7_count_74 (by decide), ?_⟩
  refine List.forall_mem_cons.mpr ⟨ok_aload_n F dX7_count_75 rfl (by decide), ?_⟩
  refine List.forall_mem_cons.mpr ⟨ok_callV F spok_X7_readyPumps (ln_id aW) rcv_aW (by decide +kernel) (by decide) dX7_count_76 (by decide), ?_⟩
  refine List.forall_mem_cons.mpr ⟨ok_iret F G dX7_count_79 (by decide), ?_⟩
  refine List.forall_mem_cons.mpr ⟨ok_aload_n F dX7_count_80 rfl (by decide), ?_⟩
  refine List.forall_mem_cons.mpr ⟨ok_getf F flX7_7 dX7_count_81 (by decide), ?_⟩
  refine List.forall_mem_cons.mpr ⟨ok_bipush F dX7_count_84 (by decide) (by decide), ?_⟩
  refine List.forall_mem_cons.mpr ⟨ok_iload_n F dX7_count_86 rfl (by decide), ?_⟩
  refine List.forall_mem_cons.mpr ⟨ok_iadd F dX7_count_87 (by decide), ?_⟩
  refine List.forall_mem_cons.mpr ⟨ok_iconst F dX7_count_88 (by decide) (by decide), ?_⟩
  refine List.forall_mem_cons.mpr ⟨ok_isub F dX7_count_89 (by decide), ?_⟩
  refine List.forall_mem_cons.mpr ⟨ok_iald F dX7_count_90 (by decide), ?_⟩
  refine List.forall_mem_cons.mpr ⟨ok_iret F G dX7_count_91 (by decide), ?_⟩
  refine List.forall_mem_cons.mpr ⟨ok_aload_n F dX7_count_92 rfl (by decide), ?_⟩
  refine List.forall_mem_cons.mpr ⟨ok_getf F flX7_7 dX7_count_93 (by decide), ?_⟩
  refine List.forall_mem_cons.mpr ⟨ok_iconst F dX7_count_96 (by decide) (by decide), ?_⟩
  refine List.forall_mem_cons.mpr ⟨ok_iald F dX7_count_97 (by decide), ?_⟩
  refine List.forall_mem_cons.mpr ⟨ok_iret F G dX7_count_98 (by decide), ?_⟩
  refine List.forall_mem_cons.mpr ⟨ok_aload_n F dX7_count_99 rfl (by decide), ?_⟩
  refine List.forall_mem_cons.mpr ⟨ok_callV F spok_X7_minuteOfDay (ln_id aW) rcv_aW (by decide +kernel) (by decide) dX7_count_100 (by decide), ?_⟩
  refine List.forall_mem_cons.mpr ⟨ok_iret F G dX7_count_103 (by decide), ?_⟩
  refine List.forall_mem_cons.mpr ⟨ok_aload_n F dX7_count_104 rfl (by decide), ?_⟩
  refine List.forall_mem_cons.mpr ⟨ok_getf F flX7_54 dX7_count_105 (by decide), ?_⟩
  refine List.forall_mem_cons.mpr ⟨ok_iret F G dX7_count_108 (by decide), ?_⟩
  refine List.forall_mem_cons.mpr ⟨ok_aload_n F dX7_count_109 rfl (by decide), ?_⟩
  refine List.forall_mem_cons.mpr ⟨ok_getf F flX7_234 dX7_count_110 (by decide), ?_⟩
  refine List.forall_mem_cons.mpr ⟨ok_iret F G dX7_count_113 (by decide), ?_⟩
  refine List.forall_mem_cons.mpr ⟨ok_iload_n F dX7_count_114 rfl (by decide), ?_⟩
  refine List.forall_mem_cons.mpr ⟨ok_i2l F dX7_count_115 (by decide), ?_⟩
  refine List.forall_mem_cons.mpr ⟨ok_ldc2 F (ix := 237) (wsHas_mem (l := [Jvm.Cond.constantLong RX7 237 20]) (by decide +kernel) (by simp)) dX7_count_116 (by decide), ?_⟩
  refine List.forall_mem_cons.mpr ⟨ok_ldc2 F (ix := 239) (wsHas_mem (l := [Jvm.Cond.constantLong RX7 239 38]) (by decide +kernel) (by simp)) dX7_count_119 (by decide), ?_⟩
  refine List.forall_mem_cons.mpr ⟨ok_callS F spok_X7_in (by decide +kernel) rfl (by decide) dX7_count_122 (by decide), ?_⟩
  refine List.forall_mem_cons.mpr ⟨ok_if_eq F dX7_count_125 (by decide) (by decide) (by decide), ?_⟩
  refine List.forall_mem_cons.mpr ⟨ok_aload_n F dX7_count_128 rfl (by decide), ?_⟩
  refine List.forall_mem_cons.mpr ⟨ok_iload_n F dX7_count_129 rfl (by decide), ?_⟩
  refine List.forall_mem_cons.mpr ⟨ok_bipush F dX7_count_130 (by decide) (by decide), ?_⟩
  refine List.forall_mem_cons.mpr ⟨ok_isub F dX7_count_132 (by decide), ?_⟩
  refine List.forall_mem_cons.mpr ⟨ok_callV F spok_X7_setting (ln_id aW) rcv_aW (by decide +kernel) (by decide) dX7_count_133 (by decide), ?_⟩
  refine List.forall_mem_cons.mpr ⟨ok_goto F dX7_count_136 (by decide) (by decide) (by decide), ?_⟩
  refine List.forall_mem_cons.mpr ⟨ok_ldc F (ix := 62) (wsHas_mem (l := [Jvm.Cond.constant RX7 62 (-1000001)]) (by decide +kernel) (by simp)) dX7_count_139 (by decide), ?_⟩
  refine List.forall_mem_cons.mpr ⟨ok_iret F G dX7_count_141 (by decide), ?_⟩
  exact fun _ h => absurd h List.not_mem_nil
set_option maxRecDepth 100000 in
theorem w_X7_count : (∀ (K : Kt QT) (n : Nat) (L : xL) (st : List Value) (S : QT), nx cod_X7_count cut_X7_count K (n + 1) 0 L st S = (O_iload 1 1) (nx cod_X7_count cut_X7_count K n) 0 L st S) ∧
  (∀ (K : Kt QT) (n : Nat) (L : xL) (st : List Value) (S : QT), nx cod_X7_count cut_X7_count K (n + 1) 1 L st S = (O_switch [(0, 60), (1, 60), (2, 60), (3, 70), (4, 75), (5, 80), (6, 80), (7, 92), (8, 99), (9, 104), (10, 109)] 114) (nx cod_X7_count cut_X7_count K n) 1 L st S) ∧
  (∀ (K : Kt QT) (n : Nat) (L : xL) (st : List Value) (S : QT), nx cod_X7_count cut_X7_count K (n + 1) 60 L st S = (O_aload 0 1) (nx cod_X7_count cut_X7_count K n) 60 L st S) ∧
  (∀ (K : Kt QT) (n : Nat) (L : xL) (st : List Value) (S : QT), nx cod_X7_count cut_X7_count K (n + 1) 61 L st S = (O_getf aW 7 0) (nx cod_X7_count cut_X7_count K n) 61 L st S) ∧
  (∀ (K : Kt QT) (n : Nat) (L : xL) (st : List Value) (S : QT), nx cod_X7_count cut_X7_count K (n + 1) 64 L st S = (O_int 14 2) (nx cod_X7_count cut_X7_count K n) 64 L st S) ∧
  (∀ (K : Kt QT) (n : Nat) (L : xL) (st : List Value) (S : QT), nx cod_X7_count cut_X7_count K (n + 1) 66 L st S = (O_iload 1 1) (nx cod_X7_count cut_X7_count K n) 66 L st S) ∧
  (∀ (K : Kt QT) (n : Nat) (L : xL) (st : List Value) (S : QT), nx cod_X7_count cut_X7_count K (n + 1) 67 L st S = (O_iadd) (nx cod_X7_count cut_X7_count K n) 67 L st S) ∧
  (∀ (K : Kt QT) (n : Nat) (L : xL) (st : List Value) (S : QT), nx cod_X7_count cut_X7_count K (n + 1) 68 L st S = (O_ald aW 0) (nx cod_X7_count cut_X7_count K n) 68 L st S) ∧
  (∀ (K : Kt QT) (n : Nat) (L : xL) (st : List Value) (S : QT), nx cod_X7_count cut_X7_count K (n + 1) 69 L st S = (O_iret) (nx cod_X7_count cut_X7_count K n) 69 L st S) ∧
  (∀ (K : Kt QT) (n : Nat) (L : xL) (st : List Value) (S : QT), nx cod_X7_count cut_X7_count K (n + 1) 70 L st S = (O_aload 0 1) (nx cod_X7_count cut_X7_count K n) 70 L st S) ∧
  (∀ (K : Kt QT) (n : Nat) (L : xL) (st : List Value) (S : QT), nx cod_X7_count cut_X7_count K (n + 1) 71 L st S = (O_callV 0 0 (fun S => S) (fun _ S' => S') sp_X7_openZones) (nx cod_X7_count cut_X7_count K n) 71 L st S) ∧
  (∀ (K : Kt QT) (n : Nat) (L : xL) (st : List Value) (S : QT), nx cod_X7_count cut_X7_count K (n + 1) 74 L st S = (O_iret) (nx cod_X7_count cut_X7_count K n) 74 L st S) ∧
  (∀ (K : Kt QT) (n : Nat) (L : xL) (st : List Value) (S : QT), nx cod_X7_count cut_X7_count K (n + 1) 75 L st S = (O_aload 0 1) (nx cod_X7_count cut_X7_count K n) 75 L st S) ∧
  (∀ (K : Kt QT) (n : Nat) (L : xL) (st : List Value) (S : QT), nx cod_X7_count cut_X7_count K (n + 1) 76 L st S = (O_callV 0 0 (fun S => S) (fun _ S' => S') sp_X7_readyPumps) (nx cod_X7_count cut_X7_count K n) 76 L st S) ∧
  (∀ (K : Kt QT) (n : Nat) (L : xL) (st : List Value) (S : QT), nx cod_X7_count cut_X7_count K (n + 1) 79 L st S = (O_iret) (nx cod_X7_count cut_X7_count K n) 79 L st S) ∧
  (∀ (K : Kt QT) (n : Nat) (L : xL) (st : List Value) (S : QT), nx cod_X7_count cut_X7_count K (n + 1) 80 L st S = (O_aload 0 1) (nx cod_X7_count cut_X7_count K n) 80 L st S) ∧
  (∀ (K : Kt QT) (n : Nat) (L : xL) (st : List Value) (S : QT), nx cod_X7_count cut_X7_count K (n + 1) 81 L st S = (O_getf aW 7 0) (nx cod_X7_count cut_X7_count K n) 81 L st S) ∧
  (∀ (K : Kt QT) (n : Nat) (L : xL) (st : List Value) (S : QT), nx cod_X7_count cut_X7_count K (n + 1) 84 L st S = (O_int 18 2) (nx cod_X7_count cut_X7_count K n) 84 L st S) ∧
  (∀ (K : Kt QT) (n : Nat) (L : xL) (st : List Value) (S : QT), nx cod_X7_count cut_X7_count K (n + 1) 86 L st S = (O_iload 1 1) (nx cod_X7_count cut_X7_count K n) 86 L st S) ∧
  (∀ (K : Kt QT) (n : Nat) (L : xL) (st : List Value) (S : QT), nx cod_X7_count cut_X7_count K (n + 1) 87 L st S = (O_iadd) (nx cod_X7_count cut_X7_count K n) 87 L st S) ∧
  (∀ (K : Kt QT) (n : Nat) (L : xL) (st : List Value) (S : QT), nx cod_X7_count cut_X7_count K (n + 1) 88 L st S = (O_int 5 1) (nx cod_X7_count cut_X7_count K n) 88 L st S) ∧
  (∀ (K : Kt QT) (n : Nat) (L : xL) (st : List Value) (S : QT), nx cod_X7_count cut_X7_count K (n + 1) 89 L st S = (O_isub) (nx cod_X7_count cut_X7_count K n) 89 L st S) ∧
  (∀ (K : Kt QT) (n : Nat) (L : xL) (st : List Value) (S : QT), nx cod_X7_count cut_X7_count K (n + 1) 90 L st S = (O_ald aW 0) (nx cod_X7_count cut_X7_count K n) 90 L st S) ∧
  (∀ (K : Kt QT) (n : Nat) (L : xL) (st : List Value) (S : QT), nx cod_X7_count cut_X7_count K (n + 1) 91 L st S = (O_iret) (nx cod_X7_count cut_X7_count K n) 91 L st S) ∧
  (∀ (K : Kt QT) (n : Nat) (L : xL) (st : List Value) (S : QT), nx cod_X7_count cut_X7_count K (n + 1) 92 L st S = (O_aload 0 1) (nx cod_X7_count cut_X7_count K n) 92 L st S) ∧
  (∀ (K : Kt QT) (n : Nat) (L : xL) (st : List Value) (S : QT), nx cod_X7_count cut_X7_count K (n + 1) 93 L st S = (O_getf aW 7 0) (nx cod_X7_count cut_X7_count K n) 93 L st S) ∧
  (∀ (K : Kt QT) (n : Nat) (L : xL) (st : List Value) (S : QT), nx cod_X7_count cut_X7_count K (n + 1) 96 L st S = (O_int 0 1) (nx cod_X7_count cut_X7_count K n) 96 L st S) ∧
  (∀ (K : Kt QT) (n : Nat) (L : xL) (st : List Value) (S : QT), nx cod_X7_count cut_X7_count K (n + 1) 97 L st S = (O_ald aW 0) (nx cod_X7_count cut_X7_count K n) 97 L st S) ∧
  (∀ (K : Kt QT) (n : Nat) (L : xL) (st : List Value) (S : QT), nx cod_X7_count cut_X7_count K (n + 1) 98 L st S = (O_iret) (nx cod_X7_count cut_X7_count K n) 98 L st S) ∧
  (∀ (K : Kt QT) (n : Nat) (L : xL) (st : List Value) (S : QT), nx cod_X7_count cut_X7_count K (n + 1) 99 L st S = (O_aload 0 1) (nx cod_X7_count cut_X7_count K n) 99 L st S) ∧
  (∀ (K : Kt QT) (n : Nat) (L : xL) (st : List Value) (S : QT), nx cod_X7_count cut_X7_count K (n + 1) 100 L st S = (O_callV 0 0 (fun S => S) (fun _ S' => S') sp_X7_minuteOfDay) (nx cod_X7_count cut_X7_count K n) 100 L st S) ∧
  (∀ (K : Kt QT) (n : Nat) (L : xL) (st : List Value) (S : QT), nx cod_X7_count cut_X7_count K (n + 1) 103 L st S = (O_iret) (nx cod_X7_count cut_X7_count K n) 103 L st S) ∧
  (∀ (K : Kt QT) (n : Nat) (L : xL) (st : List Value) (S : QT), nx cod_X7_count cut_X7_count K (n + 1) 104 L st S = (O_aload 0 1) (nx cod_X7_count cut_X7_count K n) 104 L st S) ∧
  (∀ (K : Kt QT) (n : Nat) (L : xL) (st : List Value) (S : QT), nx cod_X7_count cut_X7_count K (n + 1) 105 L st S = (O_getf aW 7 2) (nx cod_X7_count cut_X7_count K n) 105 L st S) ∧
  (∀ (K : Kt QT) (n : Nat) (L : xL) (st : List Value) (S : QT), nx cod_X7_count cut_X7_count K (n + 1) 108 L st S = (O_iret) (nx cod_X7_count cut_X7_count K n) 108 L st S) ∧
  (∀ (K : Kt QT) (n : Nat) (L : xL) (st : List Value) (S : QT), nx cod_X7_count cut_X7_count K (n + 1) 109 L st S = (O_aload 0 1) (nx cod_X7_count cut_X7_count K n) 109 L st S) ∧
  (∀ (K : Kt QT) (n : Nat) (L : xL) (st : List Value) (S : QT), nx cod_X7_count cut_X7_count K (n + 1) 110 L st S = (O_getf aW 7 6) (nx cod_X7_count cut_X7_count K n) 110 L st S) ∧
  (∀ (K : Kt QT) (n : Nat) (L : xL) (st : List Value) (S : QT), nx cod_X7_count cut_X7_count K (n + 1) 113 L st S = (O_iret) (nx cod_X7_count cut_X7_count K n) 113 L st S) ∧
  (∀ (K : Kt QT) (n : Nat) (L : xL) (st : List Value) (S : QT), nx cod_X7_count cut_X7_count K (n + 1) 114 L st S = (O_iload 1 1) (nx cod_X7_count cut_X7_count K n) 114 L st S) ∧
  (∀ (K : Kt QT) (n : Nat) (L : xL) (st : List Value) (S : QT), nx cod_X7_count cut_X7_count K (n + 1) 115 L st S = (O_i2l) (nx cod_X7_count cut_X7_count K n) 115 L st S) ∧
  (∀ (K : Kt QT) (n : Nat) (L : xL) (st : List Value) (S : QT), nx cod_X7_count cut_X7_count K (n + 1) 116 L st S = (O_long 20 3) (nx cod_X7_count cut_X7_count K n) 116 L st S) ∧
  (∀ (K : Kt QT) (n : Nat) (L : xL) (st : List Value) (S : QT), nx cod_X7_count cut_X7_count K (n + 1) 119 L st S = (O_long 38 3) (nx cod_X7_count cut_X7_count K n) 119 L st S) ∧
  (∀ (K : Kt QT) (n : Nat) (L : xL) (st : List Value) (S : QT), nx cod_X7_count cut_X7_count K (n + 1) 122 L st S = (O_callS 3 sp_X7_in) (nx cod_X7_count cut_X7_count K n) 122 L st S) ∧
  (∀ (K : Kt QT) (n : Nat) (L : xL) (st : List Value) (S : QT), nx cod_X7_count cut_X7_count K (n + 1) 125 L st S = (O_if_eq 139) (nx cod_X7_count cut_X7_count K n) 125 L st S) ∧
  (∀ (K : Kt QT) (n : Nat) (L : xL) (st : List Value) (S : QT), nx cod_X7_count cut_X7_count K (n + 1) 128 L st S = (O_aload 0 1) (nx cod_X7_count cut_X7_count K n) 128 L st S) ∧
  (∀ (K : Kt QT) (n : Nat) (L : xL) (st : List Value) (S : QT), nx cod_X7_count cut_X7_count K (n + 1) 129 L st S = (O_iload 1 1) (nx cod_X7_count cut_X7_count K n) 129 L st S) ∧
  (∀ (K : Kt QT) (n : Nat) (L : xL) (st : List Value) (S : QT), nx cod_X7_count cut_X7_count K (n + 1) 130 L st S = (O_int 20 2) (nx cod_X7_count cut_X7_count K n) 130 L st S) ∧
  (∀ (K : Kt QT) (n : Nat) (L : xL) (st : List Value) (S : QT), nx cod_X7_count cut_X7_count K (n + 1) 132 L st S = (O_isub) (nx cod_X7_count cut_X7_count K n) 132 L st S) ∧
  (∀ (K : Kt QT) (n : Nat) (L : xL) (st : List Value) (S : QT), nx cod_X7_count cut_X7_count K (n + 1) 133 L st S = (O_callV 1 0 (fun S => S) (fun _ S' => S') sp_X7_setting) (nx cod_X7_count cut_X7_count K n) 133 L st S) ∧
  (∀ (K : Kt QT) (n : Nat) (L : xL) (st : List Value) (S : QT), nx cod_X7_count cut_X7_count K (n + 1) 136 L st S = (O_goto 141) (nx cod_X7_count cut_X7_count K n) 136 L st S) ∧
  (∀ (K : Kt QT) (n : Nat) (L : xL) (st : List Value) (S : QT), nx cod_X7_count cut_X7_count K (n + 1) 139 L st S = (O_int (-1000001) 2) (nx cod_X7_count cut_X7_count K n) 139 L st S) ∧
  (∀ (K : Kt QT) (n : Nat) (L : xL) (st : List Value) (S : QT), nx cod_X7_count cut_X7_count K (n + 1) 141 L st S = (O_iret) (nx cod_X7_count cut_X7_count K n) 141 L st S) ∧
  (∀ (K : Kt QT) (n : Nat) (L : xL) (st : List Value) (S : QT), nx cod_X7_count cut_X7_count K (n + 1) 100000 L st S = K 100000 L st S) := by
  repeat' apply And.intro
  all_goals (intros; rfl)
set_option maxRecDepth 100000 in
theorem mk_X7_count {P P' : QT} {r : Option Value} {p0 : Int32} (body : ∀ E : En, CodOk E aW cod_X7_count → Gd E aW 100000 [] r.toList P' → Gd E aW 0 [some (.ref 0), some (.int p0)] [] P) : Con yX7_count cX7_count 2 (some .int) 4 aW [.ref 0, .int p0] P r P' :=
  Con.of (by decide) ((aW_len P').trans (aW_len P).symm) rfl (Nat.le_of_ble_eq_true rfl) (fun E F G hr => body E (okc_X7_count F G) hr)
set_option maxRecDepth 10000 in
theorem con_X7_count (S : ST) (M : MT) (fl : Bool) (w : Int32) (hp : S.inv 1) : Con yX7_count cX7_count 2 (some .int) 4 aW [.ref 0, .int w] (S, M, fl) (some (.int (cnt7 S M w))) ((S, M, fl)) := by
  refine mk_X7_count (fun E C hr => ?_)
  have hP := hp.1
  have hz := hp.2.1.1
  have hb := hp.2.1.2.1
  clear hp
  by_cases c : inR w 0 10 = true
  · unfold cnt7 at hr
    rcases wlit10 c with rfl | rfl | rfl | rfl | rfl | rfl | rfl | rfl | rfl | rfl | rfl
    · have hr : Gd E aW 100000 [] [.int S.P.size] (S, M, fl) := hr
      (refine nx_ok C (cuts := cut_X7_count) 1000 _ _ _ _ ?_; simp only [w_X7_count, ops_eq, xst_eq, call_eq, oK_eq, Option.toList_some, Option.toList_none, List.cons_append, List.nil_append, List.length_cons, List.length_nil, true_and, and_true, Nat.reduceAdd, aW_F, aW_A, aW_P, aW_w, abs_eq, O_asti_eq, v170, cl_eq, ST_id, MT_gs, ST_gs, PT_gs, ZT_gs, NT_gs, ET_gs, se_X7_openZones, se_X7_readyPumps, se_X7_minuteOfDay, se_X7_in, se_X7_setting, st_idx])
      ((repeat' (with_reducible first | apply And.intro | intro _)) <;> first | (with_reducible assumption) | (with_reducible exact Nat.zero_le _) | contradiction | (simp only [Option.toList_none, Option.toList_some] at hr; with_reducible assumption) | (simp_all; done) | assumption)
    · have hr : Gd E aW 100000 [] [.int S.Z.size] (S, M, fl) := hr
      (refine nx_ok C (cuts := cut_X7_count) 1000 _ _ _ _ ?_; simp only [w_X7_count, ops_eq, xst_eq, call_eq, oK_eq, Option.toList_some, Option.toList_none, List.cons_append, List.nil_append, List.length_cons, List.length_nil, true_and, and_true, Nat.reduceAdd, aW_F, aW_A, aW_P, aW_w, abs_eq, O_asti_eq, v170, cl_eq, ST_id, MT_gs, ST_gs, PT_gs, ZT_gs, NT_gs, ET_gs, se_X7_openZones, se_X7_readyPumps, se_X7_minuteOfDay, se_X7_in, se_X7_setting, st_idx])
      ((repeat' (with_reducible first | apply And.intro | intro _)) <;> first | (with_reducible assumption) | (with_reducible exact Nat.zero_le _) | contradiction | (simp only [Option.toList_none, Option.toList_some] at hr; with_reducible assumption) | (simp_all; done) | assumption)
    · have hr : Gd E aW 100000 [] [.int S.Z.programmes] (S, M, fl) := hr
      (refine nx_ok C (cuts := cut_X7_count) 1000 _ _ _ _ ?_; simp only [w_X7_count, ops_eq, xst_eq, call_eq, oK_eq, Option.toList_some, Option.toList_none, List.cons_append, List.nil_append, List.length_cons, List.length_nil, true_and, and_true, Nat.reduceAdd, aW_F, aW_A, aW_P, aW_w, abs_eq, O_asti_eq, v170, cl_eq, ST_id, MT_gs, ST_gs, PT_gs, ZT_gs, NT_gs, ET_gs, se_X7_openZones, se_X7_readyPumps, se_X7_minuteOfDay, se_X7_in, se_X7_setting, st_idx])
      ((repeat' (with_reducible first | apply And.intro | intro _)) <;> first | (with_reducible assumption) | (with_reducible exact Nat.zero_le _) | contradiction | (simp only [Option.toList_none, Option.toList_some] at hr; with_reducible assumption) | (simp_all; done) | assumption)
    · have hr : Gd E aW 100000 [] [.int S.Z.openOnes] (S, M, fl) := hr
      (refine nx_ok C (cuts := cut_X7_count) 1000 _ _ _ _ ?_; simp only [w_X7_count, ops_eq, xst_eq, call_eq, oK_eq, Option.toList_some, Option.toList_none, List.cons_append, List.nil_append, List.length_cons, List.length_nil, true_and, and_true, Nat.reduceAdd, aW_F, aW_A, aW_P, aW_w, abs_eq, O_asti_eq, v170, cl_eq, ST_id, MT_gs, ST_gs, PT_gs, ZT_gs, NT_gs, ET_gs, se_X7_openZones, se_X7_readyPumps, se_X7_minuteOfDay, se_X7_in, se_X7_setting, hz, hb])
      ((repeat' (with_reducible first | apply And.intro | intro _)) <;> first | (with_reducible assumption) | (with_reducible exact Nat.zero_le _) | contradiction | (simp only [Option.toList_none, Option.toList_some] at hr; with_reducible assumption) | (simp_all; done) | assumption)
    · have hr : Gd E aW 100000 [] [.int S.P.readyOnes] (S, M, fl) := hr
      (refine nx_ok C (cuts := cut_X7_count) 1000 _ _ _ _ ?_; simp only [w_X7_count, ops_eq, xst_eq, call_eq, oK_eq, Option.toList_some, Option.toList_none, List.cons_append, List.nil_append, List.length_cons, List.length_nil, true_and, and_true, Nat.reduceAdd, aW_F, aW_A, aW_P, aW_w, abs_eq, O_asti_eq, v170, cl_eq, ST_id, MT_gs, ST_gs, PT_gs, ZT_gs, NT_gs, ET_gs, se_X7_openZones, se_X7_readyPumps, se_X7_minuteOfDay, se_X7_in, se_X7_setting, hP])
      ((repeat' (with_reducible first | apply And.intro | intro _)) <;> first | (with_reducible assumption) | (with_reducible exact Nat.zero_le _) | contradiction | (simp only [Option.toList_none, Option.toList_some] at hr; with_reducible assumption) | (simp_all; done) | assumption)
    · have hr : Gd E aW 100000 [] [.int S.N.size] (S, M, fl) := hr
      (refine nx_ok C (cuts := cut_X7_count) 1000 _ _ _ _ ?_; simp only [w_X7_count, ops_eq, xst_eq, call_eq, oK_eq, Option.toList_some, Option.toList_none, List.cons_append, List.nil_append, List.length_cons, List.length_nil, true_and, and_true, Nat.reduceAdd, aW_F, aW_A, aW_P, aW_w, abs_eq, O_asti_eq, v170, cl_eq, ST_id, MT_gs, ST_gs, PT_gs, ZT_gs, NT_gs, ET_gs, se_X7_openZones, se_X7_readyPumps, se_X7_minuteOfDay, se_X7_in, se_X7_setting, st_idx])
      ((repeat' (with_reducible first | apply And.intro | intro _)) <;> first | (with_reducible assumption) | (with_reducible exact Nat.zero_le _) | contradiction | (simp only [Option.toList_none, Option.toList_some] at hr; with_reducible assumption) | (simp_all; done) | assumption)
    · have hr : Gd E aW 100000 [] [.int S.E.kept] (S, M, fl) := hr
      (refine nx_ok C (cuts := cut_X7_count) 1000 _ _ _ _ ?_; simp only [w_X7_count, ops_eq, xst_eq, call_eq, oK_eq, Option.toList_some, Option.toList_none, List.cons_append, List.nil_append, List.length_cons, List.length_nil, true_and, and_true, Nat.reduceAdd, aW_F, aW_A, aW_P, aW_w, abs_eq, O_asti_eq, v170, cl_eq, ST_id, MT_gs, ST_gs, PT_gs, ZT_gs, NT_gs, ET_gs, se_X7_openZones, se_X7_readyPumps, se_X7_minuteOfDay, se_X7_in, se_X7_setting, st_idx])
      ((repeat' (with_reducible first | apply And.intro | intro _)) <;> first | (with_reducible assumption) | (with_reducible exact Nat.zero_le _) | contradiction | (simp only [Option.toList_none, Option.toList_some] at hr; with_reducible assumption) | (simp_all; done) | assumption)
    · have hr : Gd E aW 100000 [] [.int S.time] (S, M, fl) := hr
      (refine nx_ok C (cuts := cut_X7_count) 1000 _ _ _ _ ?_; simp only [w_X7_count, ops_eq, xst_eq, call_eq, oK_eq, Option.toList_some, Option.toList_none, List.cons_append, List.nil_append, List.length_cons, List.length_nil, true_and, and_true, Nat.reduceAdd, aW_F, aW_A, aW_P, aW_w, abs_eq, O_asti_eq, v170, cl_eq, ST_id, MT_gs, ST_gs, PT_gs, ZT_gs, NT_gs, ET_gs, se_X7_openZones, se_X7_readyPumps, se_X7_minuteOfDay, se_X7_in, se_X7_setting])
      ((repeat' (with_reducible first | apply And.intro | intro _)) <;> first | (with_reducible assumption) | (with_reducible exact Nat.zero_le _) | contradiction | (simp only [Option.toList_none, Option.toList_some] at hr; with_reducible assumption) | (simp_all; done) | assumption)
    · have hr : Gd E aW 100000 [] [.int (S.time % 1440)] (S, M, fl) := hr
      (refine nx_ok C (cuts := cut_X7_count) 1000 _ _ _ _ ?_; simp only [w_X7_count, ops_eq, xst_eq, call_eq, oK_eq, Option.toList_some, Option.toList_none, List.cons_append, List.nil_append, List.length_cons, List.length_nil, true_and, and_true, Nat.reduceAdd, aW_F, aW_A, aW_P, aW_w, abs_eq, O_asti_eq, v170, cl_eq, ST_id, MT_gs, ST_gs, PT_gs, ZT_gs, NT_gs, ET_gs, se_X7_openZones, se_X7_readyPumps, se_X7_minuteOfDay, se_X7_in, se_X7_setting])
      ((repeat' (with_reducible first | apply And.intro | intro _)) <;> first | (with_reducible assumption) | (with_reducible exact Nat.zero_le _) | contradiction | (simp only [Option.toList_none, Option.toList_some] at hr; with_reducible assumption) | (simp_all; done) | assumption)
    · have hr : Gd E aW 100000 [] [.int M.savedMany] (S, M, fl) := hr
      (refine nx_ok C (cuts := cut_X7_count) 1000 _ _ _ _ ?_; simp only [w_X7_count, ops_eq, xst_eq, call_eq, oK_eq, Option.toList_some, Option.toList_none, List.cons_append, List.nil_append, List.length_cons, List.length_nil, true_and, and_true, Nat.reduceAdd, aW_F, aW_A, aW_P, aW_w, abs_eq, O_asti_eq, v170, cl_eq, ST_id, MT_gs, ST_gs, PT_gs, ZT_gs, NT_gs, ET_gs, se_X7_openZones, se_X7_readyPumps, se_X7_minuteOfDay, se_X7_in, se_X7_setting])
      ((repeat' (with_reducible first | apply And.intro | intro _)) <;> first | (with_reducible assumption) | (with_reducible exact Nat.zero_le _) | contradiction | (simp only [Option.toList_none, Option.toList_some] at hr; with_reducible assumption) | (simp_all; done) | assumption)
    · have hr : Gd E aW 100000 [] [.int M.textLong] (S, M, fl) := hr
      (refine nx_ok C (cuts := cut_X7_count) 1000 _ _ _ _ ?_; simp only [w_X7_count, ops_eq, xst_eq, call_eq, oK_eq, Option.toList_some, Option.toList_none, List.cons_append, List.nil_append, List.length_cons, List.length_nil, true_and, and_true, Nat.reduceAdd, aW_F, aW_A, aW_P, aW_w, abs_eq, O_asti_eq, v170, cl_eq, ST_id, MT_gs, ST_gs, PT_gs, ZT_gs, NT_gs, ET_gs, se_X7_openZones, se_X7_readyPumps, se_X7_minuteOfDay, se_X7_in, se_X7_setting])
      ((repeat' (with_reducible first | apply And.intro | intro _)) <;> first | (with_reducible assumption) | (with_reducible exact Nat.zero_le _) | contradiction | (simp only [Option.toList_none, Option.toList_some] at hr; with_reducible assumption) | (simp_all; done) | assumption)
  · have hk : ∀ n, n ≤ 10 → inR (nI n) 0 10 = true := by decide
    have hw : ∀ n, n ≤ 10 → ¬ w = nI n := fun n hn e => c (by rw [e]; exact hk n hn)
    have w0 : ¬ w = 0 := hw 0 (by omega)
    have w1 : ¬ w = 1 := hw 1 (by omega)
    have w2 : ¬ w = 2 := hw 2 (by omega)
    have w3 : ¬ w = 3 := hw 3 (by omega)
    have w4 : ¬ w = 4 := hw 4 (by omega)
    have w5 : ¬ w = 5 := hw 5 (by omega)
    have w6 : ¬ w = 6 := hw 6 (by omega)
    have w7 : ¬ w = 7 := hw 7 (by omega)
    have w8 : ¬ w = 8 := hw 8 (by omega)
    have w9 : ¬ w = 9 := hw 9 (by omega)
    have w10 : ¬ w = 10 := hw 10 (by omega)
    clear hw c
    unfold cnt7 at hr
    rw [if_neg w0, if_neg w1, if_neg w2, if_neg w3, if_neg w4, if_neg w5, if_neg w6, if_neg w7, if_neg w8, if_neg w9, if_neg w10] at hr
    by_cases d : inR w 20 38 = true
    · have hv : vp_in (w - 20) 19 := by
        have d2 := d
        simp only [inR, decide_eq_true_eq] at d2
        obtain ⟨q1, q2⟩ := d2
        refine inR_in (by decide) (by decide) q1 ?_
        rw [Int32.lt_iff_toInt_lt] at q2
        have e1 : (38 : Int32).toInt = 38 := rfl
        have e2 : (20 : Int32).toInt = 20 := rfl
        omega
      rw [if_pos d] at hr
      (refine nx_ok C (cuts := cut_X7_count) 1000 _ _ _ _ ?_; simp only [w_X7_count, ops_eq, xst_eq, call_eq, oK_eq, Option.toList_some, Option.toList_none, List.cons_append, List.nil_append, List.length_cons, List.length_nil, true_and, and_true, Nat.reduceAdd, aW_F, aW_A, aW_P, aW_w, abs_eq, O_asti_eq, v170, cl_eq, ST_id, MT_gs, ST_gs, PT_gs, ZT_gs, NT_gs, ET_gs, se_X7_openZones, se_X7_readyPumps, se_X7_minuteOfDay, se_X7_in, se_X7_setting, bI_eq, inL_lit, w0, w1, w2, w3, w4, w5, w6, w7, w8, w9, w10, d, hv])
      ((repeat' (with_reducible first | apply And.intro | intro _)) <;> first | (with_reducible assumption) | (with_reducible exact Nat.zero_le _) | contradiction | (simp only [Option.toList_none, Option.toList_some] at hr; with_reducible assumption) | (simp_all; done) | assumption)
    · rw [if_neg d] at hr
      have d := bnot d
      (refine nx_ok C (cuts := cut_X7_count) 1000 _ _ _ _ ?_; simp only [w_X7_count, ops_eq, xst_eq, call_eq, oK_eq, Option.toList_some, Option.toList_none, List.cons_append, List.nil_append, List.length_cons, List.length_nil, true_and, and_true, Nat.reduceAdd, aW_F, aW_A, aW_P, aW_w, abs_eq, O_asti_eq, v170, cl_eq, ST_id, MT_gs, ST_gs, PT_gs, ZT_gs, NT_gs, ET_gs, se_X7_openZones, se_X7_readyPumps, se_X7_minuteOfDay, se_X7_in, se_X7_setting, bI_eq, inL_lit, w0, w1, w2, w3, w4, w5, w6, w7, w8, w9, w10, d])
      ((repeat' (with_reducible first | apply And.intro | intro _)) <;> first | (with_reducible assumption) | (with_reducible exact Nat.zero_le _) | contradiction | (simp only [Option.toList_none, Option.toList_some] at hr; with_reducible assumption) | (simp_all; done) | assumption)
def spc_X7_count (S : ST) (M : MT) (fl : Bool) (w : Int32) (K : Option Value → QT → Prop) : Prop := (S.inv 1) ∧ K (some (.int (cnt7 S M w))) ((S, M, fl))
def sp_X7_count : Sp QT := fun av q K => match av with
  | [.ref 0, .int w] => spc_X7_count q.1 q.2.1 q.2.2 w K
  | _ => False
theorem se_X7_count (S : ST) (M : MT) (fl : Bool) (w : Int32) (K : Option Value → QT → Prop) : sp_X7_count [.ref 0, .int w] (S, M, fl) K = ((S.inv 1) ∧ K (some (.int (cnt7 S M w))) ((S, M, fl))) := rfl
theorem spok_X7_count : SpOk yX7_count cX7_count 2 (some .int) 4 aW sp_X7_count := by
  intro av q K h
  unfold sp_X7_count at h
  split at h
  · rename_i w; refine ⟨_, _, ?_, con_X7_count q.1 q.2.1 q.2.2 w h.1, h.2⟩; trivial
  · exact h.elim
