theorem xnar_0 : ∀ x : Int32, xnar 0 x = x := fun _ => rfl
/-! ===== the reference: events, what is saved and laid aside, the text ===== -/
theorem Con.re {τ τ' : Type} {y : MethodName} {cc : ByteArray} {maxL d : Nat} {ret : Option FieldType} {toW : τ → xW} {toW' : τ' → xW} {av : List Value} {P P' : τ} {Q Q' : τ'} {r : Option Value} (h : Con y cc maxL ret d toW av P r P') (e : toW P = toW' Q) (e' : toW P' = toW' Q') : Con y cc maxL ret d toW' av Q r Q' := by
  unfold Con at *
  rw [← e, ← e']
  exact h
def evS (k : Nat) (f : Nat → Int32) : Nat → Int32 := upd f (169 - k) (f (166 - k))
def evAll (f : Nat → Int32) (k p : Int32) : Nat → Int32 :=
  let g := it evS f 33
  let g1 := upd g 134 k
  let g2 := upd g1 135 (g1 0)
  let g3 := upd g2 136 p
  upd g3 19 (g3 19 + if g3 19 < 12 then 1 else 0)
theorem n33 : ∀ k, k < 33 → ¬ nI (35 - k) < 3 ∧ (134 : Int32) + nI (35 - k) = nI (169 - k) ∧ nI (169 - k) - 3 = nI (166 - k) ∧ vp_in (nI (169 - k)) 170 ∧ vp_in (nI (166 - k)) 170 ∧ (nI (169 - k)).toNatClampNeg = 169 - k ∧ (nI (166 - k)).toNatClampNeg = 166 - k ∧ nI (35 - k) + -1 = nI (35 - (k + 1)) := by unfold vp_in; decide +kernel
theorem v134 : vp_in 134 170 ∧ vp_in 135 170 ∧ vp_in 136 170 ∧ (134 : Int32).toNatClampNeg = 134 ∧ (135 : Int32).toNatClampNeg = 135 ∧ (136 : Int32).toNatClampNeg = 136 ∧ nI (35 - 33) < 3 := by unfold vp_in; decide +kernel
def bitI (v k : Int32) : Int32 := v ||| (1 <<< (k &&& 31))
theorem flX7_102 : fldOk RX7 102 7 4 = true := by decide +kernel
def cod_X7_event : List (Nat × Op MT) := [(0, O_int 35 2), (2, O_istore 3 1), (3, O_iload 3 1), (4, O_int 3 1), (5, O_icmp_lt 36), (8, O_aload 0 1), (9, O_getf mW 7 0), (12, O_int 134 3), (15, O_iload 3 1), (16, O_iadd), (17, O_aload 0 1), (18, O_getf mW 7 0), (21, O_int 134 3), (24, O_iload 3 1), (25, O_iadd), (26, O_int 3 1), (27, O_isub), (28, O_ald mW 0), (29, O_ast mW 0 mW_sa), (30, O_iinc 3 (-1)), (33, O_goto 3), (36, O_aload 0 1), (37, O_getf mW 7 0), (40, O_int 134 3), (43, O_iload 1 1), (44, O_ast mW 0 mW_sa), (45, O_aload 0 1), (46, O_getf mW 7 0), (49, O_int 135 3), (52, O_aload 0 1), (53, O_getf mW 7 0), (56, O_int 0 1), (57, O_ald mW 0), (58, O_ast mW 0 mW_sa), (59, O_aload 0 1), (60, O_getf mW 7 0), (63, O_int 136 3), (66, O_iload 2 1), (67, O_ast mW 0 mW_sa), (68, O_aload 0 1), (69, O_getf mW 7 0), (72, O_int 19 2), (74, O_dup2), (75, O_ald mW 0), (76, O_aload 0 1), (77, O_getf mW 7 0), (80, O_int 19 2), (82, O_ald mW 0), (83, O_int 12 2), (85, O_icmp_ge 92), (88, O_int 1 1), (89, O_goto 93), (92, O_int 0 1), (93, O_iadd), (94, O_ast mW 0 mW_sa), (95, O_aload 0 1), (96, O_dup), (97, O_getf mW 7 4), (100, O_int 1 1), (101, O_iload 1 1), (102, O_ishl), (103, O_ior), (104, O_puti mW_p7_4), (107, O_vret)]
abbrev cut_X7_event : List Nat := [3]
set_option maxRecDepth 100000 in
theorem okc_X7_event {E : En} (F : Fx E RX7 cX7_event 4 0) (G : Fr E none) : CodOk E mW cod_X7_event := by
  unfold CodOk cod_X7_event
  refine List.forall_mem_cons.mpr ⟨ok_bipush F dX7_event_0 (by decide) (by decide), ?_⟩
  refine List.forall_mem_cons.mpr ⟨ok_istore_n F dX7_event_2 rfl (by decide) (by decide), ?_⟩
  refine List.forall_mem_cons.mpr ⟨ok_iload_n F dX7_event_3 rfl (by decide), ?_⟩
  refine List.forall_mem_cons.mpr ⟨ok_iconst F dX7_event_4 (by decide) (by decide), ?_⟩
  refine List.forall_mem_cons.mpr ⟨ok_icmp_lt F dX7_event_5 (by decide) (by decide) (by decide), ?_⟩
  refine List.forall_mem_cons.mpr ⟨ok_aload_n F dX7_event_8 rfl (by decide), ?_⟩
  refine List.forall_mem_cons.mpr ⟨ok_getf F flX7_7 dX7_event_9 (by decide), ?_⟩
  refine List.forall_mem_cons.mpr ⟨ok_sipush F dX7_event_12 (by decide) (by decide), ?_⟩
  refine List.forall_mem_cons.mpr ⟨ok_iload_n F dX7_event_15 rfl (by decide), ?_⟩
  refine List.forall_mem_cons.mpr ⟨ok_iadd F dX7_event_16 (by decide), ?_⟩
  refine List.forall_mem_cons.mpr ⟨ok_aload_n F dX7_event_17 rfl (by decide), ?_⟩
  refine List.forall_mem_cons.mpr ⟨ok_getf F flX7_7 dX7_event_18 (by decide), ?_⟩
  refine List.forall_mem_cons.mpr ⟨ok_sipush F dX7_event_21 (by decide) (by decide), ?_⟩
  refine List.forall_mem_cons.mpr ⟨ok_iload_n F dX7_event_24 rfl (by decide), ?_⟩
  refine List.forall_mem_cons.mpr ⟨ok_iadd F dX7_event_25 (by decide), ?_⟩
  refine List.forall_mem_cons.mpr ⟨ok_iconst F dX7_event_26 (by decide) (by decide), ?_⟩
  refine List.forall_mem_cons.mpr ⟨ok_isub F dX7_event_27 (by decide), ?_⟩
  refine List.forall_mem_cons.mpr ⟨ok_iald F dX7_event_28 (by decide), ?_⟩
  refine List.forall_mem_cons.mpr ⟨ok_iast F mW_sar dX7_event_29 (by decide), ?_⟩
  refine List.forall_mem_cons.mpr ⟨ok_iinc F dX7_event_30 (by decide) (by decide) (by decide), ?_⟩
  refine List.forall_mem_cons.mpr ⟨ok_goto F dX7_event_33 (by decide) (by decide) (by decide), ?_⟩
  refine List.forall_mem_cons.mpr ⟨ok_aload_n F dX7_event_36 rfl (by decide), ?_⟩
  refine List.forall_mem_cons.mpr ⟨ok_getf F flX7_7 dX7_event_37 (by decide), ?_⟩
  refine List.forall_mem_cons.mpr ⟨ok_sipush F dX7_event_40 (by decide) (by decide), ?_⟩
  refine List.forall_mem_cons.mpr ⟨ok_iload_n F dX7_event_43 rfl (by decide), ?_⟩
  refine List.forall_mem_cons.mpr ⟨ok_iast F mW_sar dX7_event_44 (by decide), ?_⟩
  refine List.forall_mem_cons.mpr ⟨ok_aload_n F dX7_event_45 rfl (by decide), ?_⟩
  refine List.forall_mem_cons.mpr ⟨ok_getf F flX7_7 dX7_event_46 (by decide), ?_⟩
  refine List.forall_mem_cons.mpr ⟨ok_sipush F dX7_event_49 (by decide) (by decide), ?_⟩
  refine List.forall_mem_cons.mpr ⟨ok_aload_n F dX7_event_52 rfl (by decide), ?_⟩
  refine List.forall_mem_cons.mpr ⟨ok_getf F flX7_7 dX7_event_53 (by decide), ?_⟩
  refine List.forall_mem_cons.mpr ⟨ok_iconst F dX7_event_56 (by decide) (by decide), ?_⟩
  refine List.forall_mem_cons.mpr ⟨ok_iald F dX7_event_57 (by decide), ?_⟩
  refine List.forall_mem_cons.mpr ⟨ok_iast F mW_sar dX7_event_58 (by decide), ?_⟩
  refine List.forall_mem_cons.mpr ⟨ok_aload_n F dX7_event_59 rfl (by decide), ?_⟩
  refine List.forall_mem_cons.mpr ⟨ok_getf F flX7_7 dX7_event_60 (by decide), ?_⟩
  refine List.forall_mem_cons.mpr ⟨ok_sipush F dX7_event_63 (by decide) (by decide), ?_⟩
  refine List.forall_mem_cons.mpr ⟨ok_iload_n F dX7_event_66 rfl (by decide), ?_⟩
  refine List.forall_mem_cons.mpr ⟨ok_iast F mW_sar dX7_event_67 (by decide), ?_⟩
  refine List.forall_mem_cons.mpr ⟨ok_aload_n F dX7_event_68 rfl (by decide), ?_⟩
  refine List.forall_mem_cons.mpr ⟨ok_getf F flX7_7 dX7_event_69 (by decide), ?_⟩
  refine List.forall_mem_cons.mpr ⟨ok_bipush F dX7_event_72 (by decide) (by decide), ?_⟩
  refine List.forall_mem_cons.mpr ⟨ok_dup2 F dX7_event_74 (by decide), ?_⟩
  refine List.forall_mem_cons.mpr ⟨ok_iald F dX7_event_75 (by decide), ?_⟩
  refine List.forall_mem_cons.mpr ⟨ok_aload_n F dX7_event_76 rfl (by decide), ?_⟩
  refine List.forall_mem_cons.mpr ⟨ok_getf F flX7_7 dX7_event_77 (by decide), ?_⟩
  refine List.forall_mem_cons.mpr ⟨ok_bipush F dX7_event_80 (by decide) (by decide), ?_⟩
  refine List.forall_mem_cons.mpr ⟨ok_iald F dX7_event_82 (by decide), ?_⟩
  refine List.forall_mem_cons.mpr ⟨ok_bipush F dX7_event_83 (by decide) (by decide), ?_⟩
  refine List.forall_mem_cons.mpr ⟨ok_icmp_ge F dX7_event_85 (by decide) (by decide) (by decide), ?_⟩
  refine List.forall_mem_cons.mpr ⟨ok_iconst F dX7_event_88 (by decide) (by decide), ?_⟩
  refine List.forall_mem_cons.mpr ⟨ok_goto F dX7_event_89 (by decide) (by decide) (by decide), ?_⟩
  refine List.forall_mem_cons.mpr ⟨ok_iconst F dX7_event_92 (by decide) (by decide), ?_⟩
  refine List.forall_mem_cons.mpr ⟨ok_iadd F dX7_event_93 (by decide), ?_⟩
  refine List.forall_mem_cons.mpr ⟨ok_iast F mW_sar dX7_event_94 (by decide), ?_⟩
  refine List.forall_mem_cons.mpr ⟨ok_aload_n F dX7_event_95 rfl (by decide), ?_⟩
  refine List.forall_mem_cons.mpr ⟨ok_dup F dX7_event_96 (by decide), ?_⟩
  refine List.forall_mem_cons.mpr ⟨ok_getf F flX7_102 dX7_event_97 (by decide), ?_⟩
  refine List.forall_mem_cons.mpr ⟨ok_iconst F dX7_event_100 (by decide) (by decide), ?_⟩
  refine List.forall_mem_cons.mpr ⟨ok_iload_n F dX7_event_101 rfl (by decide), ?_⟩
  refine List.forall_mem_cons.mpr ⟨ok_ishl F dX7_event_102 (by decide), ?_⟩
  refine List.forall_mem_cons.mpr ⟨ok_ior F dX7_event_103 (by decide), ?_⟩
  refine List.forall_mem_cons.mpr ⟨ok_puti F mW_p7_4_ok (fun _ _ _ h => by cases h; rfl) rfl flX7_102 dX7_event_104 (by decide), ?_⟩
  refine List.forall_mem_cons.mpr ⟨ok_vret F G dX7_event_107 (by decide), ?_⟩
  exact fun _ h => absurd h List.not_mem_nil
set_option maxRecDepth 100000 in
theorem w_X7_event : (∀ (K : Kt MT) (n : Nat) (L : xL) (st : List Value) (S : MT), nx cod_X7_event cut_X7_event K (n + 1) 0 L st S = (O_int 35 2) (nx cod_X7_event cut_X7_event K n) 0 L st S) ∧
  (∀ (K : Kt MT) (n : Nat) (L : xL) (st : List Value) (S : MT), nx cod_X7_event cut_X7_event K (n + 1) 2 L st S = (O_istore 3 1) (nx cod_X7_event cut_X7_event K n) 2 L st S) ∧
  (∀ (K : Kt MT) (n : Nat) (L : xL) (st : List Value) (S : MT), nx cod_X7_event cut_X7_event K (n + 1) 3 L st S = K 3 L st S) ∧
  (∀ (K : Kt MT) (n : Nat) (L : xL) (st : List Value) (S : MT), nx1 cod_X7_event cut_X7_event K n 3 L st S = (O_iload 3 1) (nx cod_X7_event cut_X7_event K n) 3 L st S) ∧
  (∀ (K : Kt MT) (n : Nat) (L : xL) (st : List Value) (S : MT), nx cod_X7_event cut_X7_event K (n + 1) 4 L st S = (O_int 3 1) (nx cod_X7_event cut_X7_event K n) 4 L st S) ∧
  (∀ (K : Kt MT) (n : Nat) (L : xL) (st : List Value) (S : MT), nx cod_X7_event cut_X7_event K (n + 1) 5 L st S = (O_icmp_lt 36) (nx cod_X7_event cut_X7_event K n) 5 L st S) ∧
  (∀ (K : Kt MT) (n : Nat) (L : xL) (st : List Value) (S : MT), nx cod_X7_event cut_X7_event K (n + 1) 8 L st S = (O_aload 0 1) (nx cod_X7_event cut_X7_event K n) 8 L st S) ∧
  (∀ (K : Kt MT) (n : Nat) (L : xL) (st : List Value) (S : MT), nx cod_X7_event cut_X7_event K (n + 1) 9 L st S = (O_getf mW 7 0) (nx cod_X7_event cut_X7_event K n) 9 L st S) ∧
  (∀ (K : Kt MT) (n : Nat) (L : xL) (st : List Value) (S : MT), nx cod_X7_event cut_X7_event K (n + 1) 12 L st S = (O_int 134 3) (nx cod_X7_event cut_X7_event K n) 12 L st S) ∧
  (∀ (K : Kt MT) (n : Nat) (L : xL) (st : List Value) (S : MT), nx cod_X7_event cut_X7_event K (n + 1) 15 L st S = (O_iload 3 1) (nx cod_X7_event cut_X7_event K n) 15 L st S) ∧
  (∀ (K : Kt MT) (n : Nat) (L : xL) (st : List Value) (S : MT), nx cod_X7_event cut_X7_event K (n + 1) 16 L st S = (O_iadd) (nx cod_X7_event cut_X7_event K n) 16 L st S) ∧
  (∀ (K : Kt MT) (n : Nat) (L : xL) (st : List Value) (S : MT), nx cod_X7_event cut_X7_event K (n + 1) 17 L st S = (O_aload 0 1) (nx cod_X7_event cut_X7_event K n) 17 L st S) ∧
  (∀ (K : Kt MT) (n : Nat) (L : xL) (st : List Value) (S : MT), nx cod_X7_event cut_X7_event K (n + 1) 18 L st S = (O_getf mW 7 0) (nx cod_X7_event cut_X7_event K n) 18 L st S) ∧
  (∀ (K : Kt MT) (n : Nat) (L : xL) (st : List Value) (S : MT), nx cod_X7_event cut_X7_event K (n + 1) 21 L st S = (O_int 134 3) (nx cod_X7_event cut_X7_event K n) 21 L st S) ∧
  (∀ (K : Kt MT) (n : Nat) (L : xL) (st : List Value) (S : MT), nx cod_X7_event cut_X7_event K (n + 1) 24 L st S = (O_iload 3 1) (nx cod_X7_event cut_X7_event K n) 24 L st S) ∧
  (∀ (K : Kt MT) (n : Nat) (L : xL) (st : List Value) (S : MT), nx cod_X7_event cut_X7_event K (n + 1) 25 L st S = (O_iadd) (nx cod_X7_event cut_X7_event K n) 25 L st S) ∧
  (∀ (K : Kt MT) (n : Nat) (L : xL) (st : List Value) (S : MT), nx cod_X7_event cut_X7_event K (n + 1) 26 L st S = (O_int 3 1) (nx cod_X7_event cut_X7_event K n) 26 L st S) ∧
  (∀ (K : Kt MT) (n : Nat) (L : xL) (st : List Value) (S : MT), nx cod_X7_event cut_X7_event K (n + 1) 27 L st S = (O_isub) (nx cod_X7_event cut_X7_event K n) 27 L st S) ∧
  (∀ (K : Kt MT) (n : Nat) (L : xL) (st : List Value) (S : MT), nx cod_X7_event cut_X7_event K (n + 1) 28 L st S = (O_ald mW 0) (nx cod_X7_event cut_X7_event K n) 28 L st S) ∧
  (∀ (K : Kt MT) (n : Nat) (L : xL) (st : List Value) (S : MT), nx cod_X7_event cut_X7_event K (n + 1) 29 L st S = (O_ast mW 0 mW_sa) (nx cod_X7_event cut_X7_event K n) 29 L st S) ∧
  (∀ (K : Kt MT) (n : Nat) (L : xL) (st : List Value) (S : MT), nx cod_X7_event cut_X7_event K (n + 1) 30 L st S = (O_iinc 3 (-1)) (nx cod_X7_event cut_X7_event K n) 30 L st S) ∧
  (∀ (K : Kt MT) (n : Nat) (L : xL) (st : List Value) (S : MT), nx cod_X7_event cut_X7_event K (n + 1) 33 L st S = (O_goto 3) (nx cod_X7_event cut_X7_event K n) 33 L st S) ∧
  (∀ (K : Kt MT) (n : Nat) (L : xL) (st : List Value) (S : MT), nx cod_X7_event cut_X7_event K (n + 1) 36 L st S = (O_aload 0 1) (nx cod_X7_event cut_X7_event K n) 36 L st S) ∧
  (∀ (K : Kt MT) (n : Nat) (L : xL) (st : List Value) (S : MT), nx cod_X7_event cut_X7_event K (n + 1) 37 L st S = (O_getf mW 7 0) (nx cod_X7_event cut_X7_event K n) 37 L st S) ∧
  (∀ (K : Kt MT) (n : Nat) (L : xL) (st : List Value) (S : MT), nx cod_X7_event cut_X7_event K (n + 1) 40 L st S = (O_int 134 3) (nx cod_X7_event cut_X7_event K n) 40 L st S) ∧
  (∀ (K : Kt MT) (n : Nat) (L : xL) (st : List Value) (S : MT), nx cod_X7_event cut_X7_event K (n + 1) 43 L st S = (O_iload 1 1) (nx cod_X7_event cut_X7_event K n) 43 L st S) ∧
  (∀ (K : Kt MT) (n : Nat) (L : xL) (st : List Value) (S : MT), nx cod_X7_event cut_X7_event K (n + 1) 44 L st S = (O_ast mW 0 mW_sa) (nx cod_X7_event cut_X7_event K n) 44 L st S) ∧
  (∀ (K : Kt MT) (n : Nat) (L : xL) (st : List Value) (S : MT), nx cod_X7_event cut_X7_event K (n + 1) 45 L st S = (O_aload 0 1) (nx cod_X7_event cut_X7_event K n) 45 L st S) ∧
  (∀ (K : Kt MT) (n : Nat) (L : xL) (st : List Value) (S : MT), nx cod_X7_event cut_X7_event K (n + 1) 46 L st S = (O_getf mW 7 0) (nx cod_X7_event cut_X7_event K n) 46 L st S) ∧
  (∀ (K : Kt MT) (n : Nat) (L : xL) (st : List Value) (S : MT), nx cod_X7_event cut_X7_event K (n + 1) 49 L st S = (O_int 135 3) (nx cod_X7_event cut_X7_event K n) 49 L st S) ∧
  (∀ (K : Kt MT) (n : Nat) (L : xL) (st : List Value) (S : MT), nx cod_X7_event cut_X7_event K (n + 1) 52 L st S = (O_aload 0 1) (nx cod_X7_event cut_X7_event K n) 52 L st S) ∧
  (∀ (K : Kt MT) (n : Nat) (L : xL) (st : List Value) (S : MT), nx cod_X7_event cut_X7_event K (n + 1) 53 L st S = (O_getf mW 7 0) (nx cod_X7_event cut_X7_event K n) 53 L st S) ∧
  (∀ (K : Kt MT) (n : Nat) (L : xL) (st : List Value) (S : MT), nx cod_X7_event cut_X7_event K (n + 1) 56 L st S = (O_int 0 1) (nx cod_X7_event cut_X7_event K n) 56 L st S) ∧
  (∀ (K : Kt MT) (n : Nat) (L : xL) (st : List Value) (S : MT), nx cod_X7_event cut_X7_event K (n + 1) 57 L st S = (O_ald mW 0) (nx cod_X7_event cut_X7_event K n) 57 L st S) ∧
  (∀ (K : Kt MT) (n : Nat) (L : xL) (st : List Value) (S : MT), nx cod_X7_event cut_X7_event K (n + 1) 58 L st S = (O_ast mW 0 mW_sa) (nx cod_X7_event cut_X7_event K n) 58 L st S) ∧
  (∀ (K : Kt MT) (n : Nat) (L : xL) (st : List Value) (S : MT), nx cod_X7_event cut_X7_event K (n + 1) 59 L st S = (O_aload 0 1) (nx cod_X7_event cut_X7_event K n) 59 L st S) ∧
  (∀ (K : Kt MT) (n : Nat) (L : xL) (st : List Value) (S : MT), nx cod_X7_event cut_X7_event K (n + 1) 60 L st S = (O_getf mW 7 0) (nx cod_X7_event cut_X7_event K n) 60 L st S) ∧
  (∀ (K : Kt MT) (n : Nat) (L : xL) (st : List Value) (S : MT), nx cod_X7_event cut_X7_event K (n + 1) 63 L st S = (O_int 136 3) (nx cod_X7_event cut_X7_event K n) 63 L st S) ∧
  (∀ (K : Kt MT) (n : Nat) (L : xL) (st : List Value) (S : MT), nx cod_X7_event cut_X7_event K (n + 1) 66 L st S = (O_iload 2 1) (nx cod_X7_event cut_X7_event K n) 66 L st S) ∧
  (∀ (K : Kt MT) (n : Nat) (L : xL) (st : List Value) (S : MT), nx cod_X7_event cut_X7_event K (n + 1) 67 L st S = (O_ast mW 0 mW_sa) (nx cod_X7_event cut_X7_event K n) 67 L st S) ∧
  (∀ (K : Kt MT) (n : Nat) (L : xL) (st : List Value) (S : MT), nx cod_X7_event cut_X7_event K (n + 1) 68 L st S = (O_aload 0 1) (nx cod_X7_event cut_X7_event K n) 68 L st S) ∧
  (∀ (K : Kt MT) (n : Nat) (L : xL) (st : List Value) (S : MT), nx cod_X7_event cut_X7_event K (n + 1) 69 L st S = (O_getf mW 7 0) (nx cod_X7_event cut_X7_event K n) 69 L st S) ∧
  (∀ (K : Kt MT) (n : Nat) (L : xL) (st : List Value) (S : MT), nx cod_X7_event cut_X7_event K (n + 1) 72 L st S = (O_int 19 2) (nx cod_X7_event cut_X7_event K n) 72 L st S) ∧
  (∀ (K : Kt MT) (n : Nat) (L : xL) (st : List Value) (S : MT), nx cod_X7_event cut_X7_event K (n + 1) 74 L st S = (O_dup2) (nx cod_X7_event cut_X7_event K n) 74 L st S) ∧
  (∀ (K : Kt MT) (n : Nat) (L : xL) (st : List Value) (S : MT), nx cod_X7_event cut_X7_event K (n + 1) 75 L st S = (O_ald mW 0) (nx cod_X7_event cut_X7_event K n) 75 L st S) ∧
  (∀ (K : Kt MT) (n : Nat) (L : xL) (st : List Value) (S : MT), nx cod_X7_event cut_X7_event K (n + 1) 76 L st S = (O_aload 0 1) (nx cod_X7_event cut_X7_event K n) 76 L st S) ∧
  (∀ (K : Kt MT) (n : Nat) (L : xL) (st : List Value) (S : MT), nx cod_X7_event cut_X7_event K (n + 1) 77 L st S = (O_getf mW 7 0) (nx cod_X7_event cut_X7_event K n) 77 L st S) ∧
  (∀ (K : Kt MT) (n : Nat) (L : xL) (st : List Value) (S : MT), nx cod_X7_event cut_X7_event K (n + 1) 80 L st S = (O_int 19 2) (nx cod_X7_event cut_X7_event K n) 80 L st S) ∧
  (∀ (K : Kt MT) (n : Nat) (L : xL) (st : List Value) (S : MT), nx cod_X7_event cut_X7_event K (n + 1) 82 L st S = (O_ald mW 0) (nx cod_X7_event cut_X7_event K n) 82 L st S) ∧
  (∀ (K : Kt MT) (n : Nat) (L : xL) (st : List Value) (S : MT), nx cod_X7_event cut_X7_event K (n + 1) 83 L st S = (O_int 12 2) (nx cod_X7_event cut_X7_event K n) 83 L st S) ∧
  (∀ (K : Kt MT) (n : Nat) (L : xL) (st : List Value) (S : MT), nx cod_X7_event cut_X7_event K (n + 1) 85 L st S = (O_icmp_ge 92) (nx cod_X7_event cut_X7_event K n) 85 L st S) ∧
  (∀ (K : Kt MT) (n : Nat) (L : xL) (st : List Value) (S : MT), nx cod_X7_event cut_X7_event K (n + 1) 88 L st S = (O_int 1 1) (nx cod_X7_event cut_X7_event K n) 88 L st S) ∧
  (∀ (K : Kt MT) (n : Nat) (L : xL) (st : List Value) (S : MT), nx cod_X7_event cut_X7_event K (n + 1) 89 L st S = (O_goto 93) (nx cod_X7_event cut_X7_event K n) 89 L st S) ∧
  (∀ (K : Kt MT) (n : Nat) (L : xL) (st : List Value) (S : MT), nx cod_X7_event cut_X7_event K (n + 1) 92 L st S = (O_int 0 1) (nx cod_X7_event cut_X7_event K n) 92 L st S) ∧
  (∀ (K : Kt MT) (n : Nat) (L : xL) (st : List Value) (S : MT), nx cod_X7_event cut_X7_event K (n + 1) 93 L st S = (O_iadd) (nx cod_X7_event cut_X7_event K n) 93 L st S) ∧
  (∀ (K : Kt MT) (n : Nat) (L : xL) (st : List Value) (S : MT), nx cod_X7_event cut_X7_event K (n + 1) 94 L st S = (O_ast mW 0 mW_sa) (nx cod_X7_event cut_X7_event K n) 94 L st S) ∧
  (∀ (K : Kt MT) (n : Nat) (L : xL) (st : List Value) (S : MT), nx cod_X7_event cut_X7_event K (n + 1) 95 L st S = (O_aload 0 1) (nx cod_X7_event cut_X7_event K n) 95 L st S) ∧
  (∀ (K : Kt MT) (n : Nat) (L : xL) (st : List Value) (S : MT), nx cod_X7_event cut_X7_event K (n + 1) 96 L st S = (O_dup) (nx cod_X7_event cut_X7_event K n) 96 L st S) ∧
  (∀ (K : Kt MT) (n : Nat) (L : xL) (st : List Value) (S : MT), nx cod_X7_event cut_X7_event K (n + 1) 97 L st S = (O_getf mW 7 4) (nx cod_X7_event cut_X7_event K n) 97 L st S) ∧
  (∀ (K : Kt MT) (n : Nat) (L : xL) (st : List Value) (S : MT), nx cod_X7_event cut_X7_event K (n + 1) 100 L st S = (O_int 1 1) (nx cod_X7_event cut_X7_event K n) 100 L st S) ∧
  (∀ (K : Kt MT) (n : Nat) (L : xL) (st : List Value) (S : MT), nx cod_X7_event cut_X7_event K (n + 1) 101 L st S = (O_iload 1 1) (nx cod_X7_event cut_X7_event K n) 101 L st S) ∧
  (∀ (K : Kt MT) (n : Nat) (L : xL) (st : List Value) (S : MT), nx cod_X7_event cut_X7_event K (n + 1) 102 L st S = (O_ishl) (nx cod_X7_event cut_X7_event K n) 102 L st S) ∧
  (∀ (K : Kt MT) (n : Nat) (L : xL) (st : List Value) (S : MT), nx cod_X7_event cut_X7_event K (n + 1) 103 L st S = (O_ior) (nx cod_X7_event cut_X7_event K n) 103 L st S) ∧
  (∀ (K : Kt MT) (n : Nat) (L : xL) (st : List Value) (S : MT), nx cod_X7_event cut_X7_event K (n + 1) 104 L st S = (O_puti mW_p7_4) (nx cod_X7_event cut_X7_event K n) 104 L st S) ∧
  (∀ (K : Kt MT) (n : Nat) (L : xL) (st : List Value) (S : MT), nx cod_X7_event cut_X7_event K (n + 1) 107 L st S = (O_vret) (nx cod_X7_event cut_X7_event K n) 107 L st S) ∧
  (∀ (K : Kt MT) (n : Nat) (L : xL) (st : List Value) (S : MT), nx cod_X7_event cut_X7_event K (n + 1) 100000 L st S = K 100000 L st S) := by
  repeat' apply And.intro
  all_goals (intros; rfl)
set_option maxRecDepth 100000 in
theorem mk_X7_event {P P' : MT} {r : Option Value} {p0 : Int32} {p1 : Int32} (body : ∀ E : En, CodOk E mW cod_X7_event → Gd E mW 100000 [] r.toList P' → Gd E mW 0 [some (.ref 0), some (.int p0), some (.int p1), none] [] P) : Con yX7_event cX7_event 4 none 0 mW [.ref 0, .int p0, .int p1] P r P' :=
  Con.of (by decide) rfl rfl (Nat.le_of_ble_eq_true rfl) (fun E F G hr => body E (okc_X7_event F G) hr)
set_option maxRecDepth 10000 in
theorem con_X7_event (S : MT) (k : Int32) (p : Int32) : Con yX7_event cX7_event 4 none 0 mW [.ref 0, .int k, .int p] S (none) ((S.sAll (evAll S.all k p)).sSeen (bitI S.seen k)) := by
  refine mk_X7_event (fun E C hr => ?_)
  (refine nx_ok C (cuts := cut_X7_event) 1000 _ _ _ _ ?_; simp only [w_X7_event, ops_eq, xst_eq, call_eq, oK_eq, Option.toList_some, Option.toList_none, List.cons_append, List.nil_append, List.length_cons, List.length_nil, true_and, and_true, Nat.reduceAdd, mW_F, mW_A, mW_S, mW_P, MT_gs])
  refine it_up (f := evS) (a := S.all) (n := 33) (fun _ _ => True) (fun i f => Gd E mW 3 [some (.ref 0), some (.int k), some (.int p), some (.int (nI (35 - i)))] [] (S.sAll f)) trivial (fun _ _ _ _ => trivial) (fun i f hi _ hn => ?_) ?_
  · have hx := n33 i hi
    clear hr
    (refine nx1_ok C cut_X7_event 1000 ?_; simp only [w_X7_event, ops_eq, xst_eq, call_eq, oK_eq, Option.toList_some, Option.toList_none, List.cons_append, List.nil_append, List.length_cons, List.length_nil, true_and, and_true, Nat.reduceAdd, mW_F, mW_A, mW_S, mW_P, MT_gs, hx, xnar_0])
    ((repeat' (with_reducible first | apply And.intro | intro _)) <;> simp_all [evS, MT_gs])
  · (refine nx1_ok C cut_X7_event 1000 ?_; simp only [w_X7_event, ops_eq, xst_eq, call_eq, oK_eq, Option.toList_some, Option.toList_none, List.cons_append, List.nil_append, List.length_cons, List.length_nil, true_and, and_true, Nat.reduceAdd, mW_F, mW_A, mW_S, mW_P, MT_gs, v134, v170, cl_eq, xnar_0])
    ((repeat' (with_reducible first | apply And.intro | intro _)) <;> simp_all [evAll, bitI, MT_gs])
def sp_X7_event : Sp MT := fun av S K => match av with
  | [.ref 0, .int k, .int p] => K (none) ((S.sAll (evAll S.all k p)).sSeen (bitI S.seen k))
  | _ => False
theorem se_X7_event (k : Int32) (p : Int32) (S : MT) (K : Option Value → MT → Prop) : sp_X7_event [.ref 0, .int k, .int p] S K = (K (none) ((S.sAll (evAll S.all k p)).sSeen (bitI S.seen k))) := rfl
theorem spok_X7_event : SpOk yX7_event cX7_event 4 none 0 mW sp_X7_event := by
  intro av S K h
  unfold sp_X7_event at h
  split at h
  · rename_i k p; exact ⟨none, (S.sAll (evAll S.all k p)).sSeen (bitI S.seen k), trivial, con_X7_event S k p, h⟩
  · exact h.elim
theorem upd_ite (f : Nat → Int32) (k : Nat) (x : Int32) (i : Nat) : upd f k x i = if i = k then x else f i := rfl
theorem evS_it (f : Nat → Int32) : ∀ n, n ≤ 33 → ∀ i, it evS f n i = if 170 - n ≤ i ∧ i < 170 then f (i - 3) else f i
  | 0, _, i => by rw [if_neg (by omega)]; rfl
  | n + 1, h, i => by
    have ih := evS_it f n (by omega)
    rw [it]
    show upd (it evS f n) (169 - n) (it evS f n (166 - n)) i = _
    rw [upd_ite]
    split
    · rename_i q
      rw [ih, if_neg (by omega), if_pos (by omega)]
      congr 1
      omega
    · rename_i q
      rw [ih]
      by_cases c : 170 - n ≤ i ∧ i < 170
      · rw [if_pos c, if_pos (by omega)]
      · rw [if_neg c, if_neg (by omega)]
theorem evAll_at (f : Nat → Int32) (k p : Int32) (i : Nat) : evAll f k p i = if i = 19 then f 19 + (if f 19 < 12 then 1 else 0) else if i = 136 then p else if i = 135 then f 0 else if i = 134 then k else if 137 ≤ i ∧ i < 170 then f (i - 3) else f i := by
  have h := evS_it f 33 (Nat.le_refl _)
  unfold evAll
  simp only [upd_ite, h]
  simp
def ET.rm (S : ET) : Prop := 0 ≤ S.all.toInt ∧ S.all.toInt < 2147483000
theorem ST.inv_rm {S : ST} {n : Nat} (h : S.inv (n + 1)) : S.E.rm := ⟨h.2.2.2.2.2.2.2.1.1, by have := h.2.2.2.2.2.2.2.1.2.1; omega⟩
theorem ET.rm_n {S : ET} (h : S.rm) : ∃ A : Nat, S.all = nI A ∧ A < 2147483000 ∧ ¬ S.all < 0 ∧ S.all.toNatClampNeg = A := by
  obtain ⟨h1, h2⟩ := h
  refine ⟨S.all.toInt.toNat, ?_, by omega, ?_, rfl⟩
  · apply Int32.toInt_inj.mp
    rw [nI_toInt (by omega)]
    omega
  · rw [Int32.lt_iff_toInt_lt, iz.1]
    omega
theorem ET.row_n {S : ET} {A : Nat} (h : S.all = nI A) (hA : A < 2147483000) : S.row = A % 12 := by
  unfold ET.row
  rw [h, ← rem_eq, show (12 : Int32) = nI 12 from rfl, pk_rem (by omega) (by omega) (by omega), nI_clamp (by omega)]
theorem ET.add_ev {S : ET} (h : S.rm) (k t p : Int32) : ∀ w, w < 3 → (S.add k t p).evr w 0 = (if w = 0 then k else if w = 1 then t else p) ∧ ∀ j, j < 11 → (S.add k t p).evr w (j + 1) = S.evr w j := by
  obtain ⟨A, e1, e2, e3, e4⟩ := ET.rm_n h
  have er := ET.row_n e1 e2
  have eA : (S.add k t p).all.toNatClampNeg = A + 1 := by
    unfold ET.add
    rw [if_neg e3]
    show (S.all + 1).toNatClampNeg = A + 1
    rw [e1, nI_1, nI_clamp (by omega)]
  intro w hw
  unfold ET.evr
  rw [eA, e4]
  unfold ET.add
  rw [if_neg e3, er]
  refine ⟨?_, fun j hj => ?_⟩
  · rw [if_pos (by omega), show A + 1 - 1 - 0 = A by omega]
    match w, hw with
    | 0, _ => exact upd_at _ _ _
    | 1, _ => exact upd_at _ _ _
    | 2, _ => exact upd_at _ _ _
  · by_cases c : j < A
    · rw [if_pos (by omega), if_pos c, show A + 1 - 1 - (j + 1) = A - 1 - j by omega]
      have hne : (A - 1 - j) % 12 ≠ A % 12 := by omega
      match w, hw with
      | 0, _ => exact upd_off _ _ hne
      | 1, _ => exact upd_off _ _ hne
      | 2, _ => exact upd_off _ _ hne
    · rw [if_neg (by omega), if_neg c]
theorem ET.add_kept {S : ET} (h : S.rm) (k t p : Int32) : (S.add k t p).kept = S.kept + (if S.kept < 12 then 1 else 0) := by
  obtain ⟨A, e1, e2, e3, e4⟩ := ET.rm_n h
  have eA : (S.add k t p).all = nI (A + 1) := by
    unfold ET.add
    rw [if_neg e3]
    show S.all + 1 = nI (A + 1)
    rw [e1, nI_1]
  unfold ET.kept
  rw [eA, e1, show (12 : Int32) = nI 12 from rfl]
  have h1 := nI_ltI (a := A + 1) (b := 12) (by omega) (by omega)
  have h2 := nI_ltI (a := A) (b := 12) (by omega) (by omega)
  by_cases c : A < 12
  · rw [if_pos (h2.mpr c), if_pos (h2.mpr c), nI_1]
    by_cases d : A + 1 < 12
    · rw [if_pos (h1.mpr d)]
    · rw [if_neg (fun z => d (h1.mp z)), show A + 1 = 12 by omega]
  · rw [if_neg (fun z => by have := h1.mp z; omega), if_neg (fun z => c (h2.mp z)), if_neg (by decide)]
    exact (Int32.add_zero _).symm
theorem lowc_sE (S : ST) (e : ET) (i : Nat) (h : i ≠ 19) : (S.sE e).lowc i = S.lowc i := by
  unfold ST.lowc
  split <;> first | rfl | exact absurd rfl h
theorem abs_sE (S : ST) (e : ET) (i : Nat) (c1 : i ≠ 19) (c2 : ¬ (134 ≤ i ∧ i < 170)) : abs (S.sE e) i = abs S i := by
  unfold abs blk
  by_cases d1 : i < 20
  · rw [if_pos d1, if_pos d1]
    exact lowc_sE S e i c1
  · rw [if_neg d1, if_neg d1]
    by_cases d2 : i < 39
    · rw [if_pos d2, if_pos d2]; rfl
    rw [if_neg d2, if_neg d2]
    by_cases d3 : i < 87
    · rw [if_pos d3, if_pos d3]; rfl
    rw [if_neg d3, if_neg d3]
    by_cases d4 : i < 103
    · rw [if_pos d4, if_pos d4]; rfl
    rw [if_neg d4, if_neg d4]
    by_cases d5 : i < 127
    · rw [if_pos d5, if_pos d5]; rfl
    rw [if_neg d5, if_neg d5]
    by_cases d6 : i < 134
    · rw [if_pos d6, if_pos d6]; rfl
    rw [if_neg d6, if_neg d6, if_neg (by omega), if_neg (by omega)]
theorem abs_ev (T : ST) (r : Nat) (hr : r < 36) : abs T (134 + r) = T.E.evr (r % 3) (r / 3) := by
  unfold abs blk
  rw [if_neg (by omega), if_neg (by omega), if_neg (by omega), if_neg (by omega), if_neg (by omega), if_neg (by omega), if_pos (by omega), show 134 + r - 134 = r by omega]
  rfl
theorem abs_sE2 (S : ST) (e : ET) : abs (S.sE e) 19 = e.kept ∧ ∀ r, r < 36 → abs (S.sE e) (134 + r) = e.evr (r % 3) (r / 3) := ⟨rfl, fun r hr => abs_ev (S.sE e) r hr⟩
theorem abs_event {S : ST} (h : S.E.rm) (k p : Int32) : abs (S.event k p) = evAll (abs S) k p := by
  have h19 : abs S 19 = S.E.kept := rfl
  have h0 : abs S 0 = S.time := rfl
  have hE : S.event k p = S.sE (S.E.add k S.time p) := rfl
  rw [hE]
  have a1 := ET.add_kept h k S.time p
  have a2 := ET.add_ev h k S.time p
  generalize S.E.add k S.time p = e at a1 a2 ⊢
  funext i
  rw [evAll_at, h19, h0]
  by_cases c1 : i = 19
  · rw [if_pos c1, c1, (abs_sE2 S e).1]
    exact a1
  rw [if_neg c1]
  by_cases c2 : 134 ≤ i ∧ i < 170
  · obtain ⟨r, rfl⟩ : ∃ r, i = 134 + r := ⟨i - 134, by omega⟩
    rw [(abs_sE2 S e).2 r (by omega)]
    obtain ⟨g1, g2⟩ := a2 (r % 3) (Nat.mod_lt _ (by decide))
    by_cases c3 : r < 3
    · rw [show r / 3 = 0 by omega, g1, show r % 3 = r by omega]
      match r, c3 with
      | 0, _ => rfl
      | 1, _ => rfl
      | 2, _ => rfl
    · rw [if_neg (by omega), if_neg (by omega), if_neg (by omega), if_pos (by omega), show 134 + r - 3 = 134 + (r - 3) by omega, abs_ev S _ (by omega), show (r - 3) % 3 = r % 3 by omega]
      have := g2 (r / 3 - 1) (by omega)
      rw [show r / 3 - 1 + 1 = r / 3 by omega] at this
      rw [this]
      congr 1
      omega
  · rw [if_neg (by omega), if_neg (by omega), if_neg (by omega), if_neg (by omega)]
    exact abs_sE S e i c1 c2
theorem or_k0 (x0 x1 x2 x3 x4 x5 x6 x7 b : Int32) (h : x0 ||| b = b) : b ||| x1 ||| x2 ||| x3 ||| x4 ||| x5 ||| x6 ||| x7 = (x0 ||| x1 ||| x2 ||| x3 ||| x4 ||| x5 ||| x6 ||| x7) ||| b := by
  conv => lhs; rw [← h]
  ac_rfl
theorem or_k1 (x0 x1 x2 x3 x4 x5 x6 x7 b : Int32) (h : x1 ||| b = b) : x0 ||| b ||| x2 ||| x3 ||| x4 ||| x5 ||| x6 ||| x7 = (x0 ||| x1 ||| x2 ||| x3 ||| x4 ||| x5 ||| x6 ||| x7) ||| b := by
  conv => lhs; rw [← h]
  ac_rfl
theorem or_k2 (x0 x1 x2 x3 x4 x5 x6 x7 b : Int32) (h : x2 ||| b = b) : x0 ||| x1 ||| b ||| x3 ||| x4 ||| x5 ||| x6 ||| x7 = (x0 ||| x1 ||| x2 ||| x3 ||| x4 ||| x5 ||| x6 ||| x7) ||| b := by
  conv => lhs; rw [← h]
  ac_rfl
theorem or_k3 (x0 x1 x2 x3 x4 x5 x6 x7 b : Int32) (h : x3 ||| b = b) : x0 ||| x1 ||| x2 ||| b ||| x4 ||| x5 ||| x6 ||| x7 = (x0 ||| x1 ||| x2 ||| x3 ||| x4 ||| x5 ||| x6 ||| x7) ||| b := by
  conv => lhs; rw [← h]
  ac_rfl
theorem or_k4 (x0 x1 x2 x3 x4 x5 x6 x7 b : Int32) (h : x4 ||| b = b) : x0 ||| x1 ||| x2 ||| x3 ||| b ||| x5 ||| x6 ||| x7 = (x0 ||| x1 ||| x2 ||| x3 ||| x4 ||| x5 ||| x6 ||| x7) ||| b := by
  conv => lhs; rw [← h]
  ac_rfl
theorem or_k5 (x0 x1 x2 x3 x4 x5 x6 x7 b : Int32) (h : x5 ||| b = b) : x0 ||| x1 ||| x2 ||| x3 ||| x4 ||| b ||| x6 ||| x7 = (x0 ||| x1 ||| x2 ||| x3 ||| x4 ||| x5 ||| x6 ||| x7) ||| b := by
  conv => lhs; rw [← h]
  ac_rfl
theorem or_k6 (x0 x1 x2 x3 x4 x5 x6 x7 b : Int32) (h : x6 ||| b = b) : x0 ||| x1 ||| x2 ||| x3 ||| x4 ||| x5 ||| b ||| x7 = (x0 ||| x1 ||| x2 ||| x3 ||| x4 ||| x5 ||| x6 ||| x7) ||| b := by
  conv => lhs; rw [← h]
  ac_rfl
theorem or_k7 (x0 x1 x2 x3 x4 x5 x6 x7 b : Int32) (h : x7 ||| b = b) : x0 ||| x1 ||| x2 ||| x3 ||| x4 ||| x5 ||| x6 ||| b = (x0 ||| x1 ||| x2 ||| x3 ||| x4 ||| x5 ||| x6 ||| x7) ||| b := by
  conv => lhs; rw [← h]
  ac_rfl
theorem mk1_or (S : ST) (k : Nat) (b : Int32) : mk1 S k b ||| b = b := by
  unfold mk1
  split
  · exact Int32.or_self
  · exact Int32.zero_or
theorem mask_event {S : ST} (h : S.E.rm) {k : Int32} (hk : vp_in k 8) (p : Int32) : mask (S.event k p) = bitI (mask S) k := by
  obtain ⟨A, e1, e2, e3, e4⟩ := ET.rm_n h
  have hl : (S.event k p).E.latest = upd S.E.latest k.toNatClampNeg S.time := by
    show (S.E.add k S.time p).latest = _
    unfold ET.add
    rw [if_neg e3]
    rfl
  have ht : (S.event k p).time = S.time := rfl
  have hm : ∀ j b, mk1 (S.event k p) j b = if j = k.toNatClampNeg then b else mk1 S j b := fun j b => by
    unfold mk1
    rw [hl, ht]
    unfold upd
    by_cases c : j = k.toNatClampNeg
    · rw [if_pos c, if_pos c, if_pos rfl]
    · rw [if_neg c, if_neg c]
  obtain ⟨a, ha, rfl⟩ := vp_in_of hk (by omega)
  rw [nI_clamp (by omega)] at hm
  unfold mask bitI
  simp only [hm]
  match a, ha with
  | 0, _ => exact or_k0 _ _ _ _ _ _ _ _ _ (mk1_or S 0 1)
  | 1, _ => exact or_k1 _ _ _ _ _ _ _ _ _ (mk1_or S 1 2)
  | 2, _ => exact or_k2 _ _ _ _ _ _ _ _ _ (mk1_or S 2 4)
  | 3, _ => exact or_k3 _ _ _ _ _ _ _ _ _ (mk1_or S 3 8)
  | 4, _ => exact or_k4 _ _ _ _ _ _ _ _ _ (mk1_or S 4 16)
  | 5, _ => exact or_k5 _ _ _ _ _ _ _ _ _ (mk1_or S 5 32)
  | 6, _ => exact or_k6 _ _ _ _ _ _ _ _ _ (mk1_or S 6 64)
  | 7, _ => exact or_k7 _ _ _ _ _ _ _ _ _ (mk1_or S 7 128)
def MT.ev (M : MT) (fl : Bool) (k : Int32) : MT := if fl = true then M else M.sSeen (bitI M.seen k)
theorem cona_X7_event (S : ST) (M : MT) (fl : Bool) (k : Int32) (p : Int32) (hp : S.E.rm ∧ vp_in k 8) : Con yX7_event cX7_event 4 none 0 aW [.ref 0, .int k, .int p] (S, M, fl) (none) ((S.event k p, M.ev fl k, fl)) := by
  refine (con_X7_event ((M.sAll (abs S)).sSeen (sn (S, M, fl))) k p).re (toW' := aW) (Q := (S, M, fl)) (Q' := (S.event k p, M.ev fl k, fl)) rfl ?_
  show mW ((((M.sAll (abs S)).sSeen (sn (S, M, fl))).sAll (evAll (abs S) k p)).sSeen (bitI (sn (S, M, fl)) k)) = aW (S.event k p, M.ev fl k, fl)
  rw [← abs_event hp.1]
  cases fl with
  | false => rfl
  | true =>
    unfold aW sn
    dsimp only
    rw [if_pos rfl, if_pos rfl, mask_event hp.1 hp.2]
    unfold bitI
    rw [← Int32.or_assoc]
    rfl
def spca_X7_event (S : ST) (M : MT) (fl : Bool) (k : Int32) (p : Int32) (K : Option Value → QT → Prop) : Prop := (S.E.rm ∧ vp_in k 8) ∧ K (none) ((S.event k p, M.ev fl k, fl))
def spa_X7_event : Sp QT := fun av q K => match av with
  | [.ref 0, .int k, .int p] => spca_X7_event q.1 q.2.1 q.2.2 k p K
  | _ => False
theorem sea_X7_event (S : ST) (M : MT) (fl : Bool) (k : Int32) (p : Int32) (K : Option Value → QT → Prop) : spa_X7_event [.ref 0, .int k, .int p] (S, M, fl) K = ((S.E.rm ∧ vp_in k 8) ∧ K (none) ((S.event k p, M.ev fl k, fl))) := rfl
theorem spoka_X7_event : SpOk yX7_event cX7_event 4 none 0 aW spa_X7_event := by
  intro av q K h
  unfold spa_X7_event at h
  split at h
  · rename_i k p; refine ⟨_, _, ?_, cona_X7_event q.1 q.2.1 q.2.2 k p h.1, h.2⟩; trivial
  · exact h.elim
/-! copies -/
def cp (b c : Nat) (a f : Nat → Int32) (n : Nat) : Nat → Int32 := it (fun i g => upd g (b + i) (a (c + i))) f n
theorem cp_at (b c : Nat) (a f : Nat → Int32) : ∀ n j, cp b c a f n j = if b ≤ j ∧ j < b + n then a (c + (j - b)) else f j
  | 0, j => by rw [if_neg (by omega)]; rfl
  | n + 1, j => by
    have ih := cp_at b c a f n j
    show upd (cp b c a f n) (b + n) (a (c + n)) j = _
    rw [upd_ite]
    split
    · rename_i q
      rw [if_pos (by omega)]
      congr 1
      omega
    · rename_i q
      rw [ih]
      by_cases d : b ≤ j ∧ j < b + n
      · rw [if_pos d, if_pos (by omega)]
      · rw [if_neg d, if_neg (by omega)]
def sft (f : Nat → Int32) (n : Nat) : Nat → Int32 := it (fun i g => upd g i (g (i + 170))) f n
theorem sft_at (f : Nat → Int32) : ∀ n j, sft f n j = if j < n then f (j + 170) else f j
  | 0, j => by rw [if_neg (by omega)]; rfl
  | n + 1, j => by
    have ih := sft_at f n
    show upd (sft f n) n (sft f n (n + 170)) j = _
    rw [upd_ite]
    split
    · rename_i q
      rw [ih, if_neg (by omega), if_pos (by omega), q]
    · rename_i q
      rw [ih]
      by_cases d : j < n
      · rw [if_pos d, if_pos (by omega)]
      · rw [if_neg d, if_neg (by omega)]
theorem nI_v {i N : Nat} (h : i < N) (h2 : N < 100000) : vp_in (nI i) N ∧ (nI i).toNatClampNeg = i := ⟨vp_in_nI h (by omega), nI_clamp (by omega)⟩
theorem lp170 {i : Nat} (h : i < 170) : nI i < 170 ∧ nI i + 1 = nI (i + 1) := ⟨by rw [show (170 : Int32) = nI 170 from rfl, nI_ltI (by omega) (by omega)]; exact h, nI_1 i⟩
theorem flX7_16 : fldOk RX7 16 7 3 = true := by decide +kernel
def cod_X7_layAside : List (Nat × Op MT) := [(0, O_int 0 1), (1, O_istore 1 1), (2, O_iload 1 1), (3, O_int 170 3), (6, O_icmp_ge 27), (9, O_aload 0 1), (10, O_getf mW 7 3), (13, O_iload 1 1), (14, O_aload 0 1), (15, O_getf mW 7 0), (18, O_iload 1 1), (19, O_ald mW 0), (20, O_ast mW 0 mW_sa), (21, O_iinc 1 1), (24, O_goto 2), (27, O_vret)]
abbrev cut_X7_layAside : List Nat := [2]
set_option maxRecDepth 100000 in
theorem okc_X7_layAside {E : En} (F : Fx E RX7 cX7_layAside 2 0) (G : Fr E none) : CodOk E mW cod_X7_layAside := by
  unfold CodOk cod_X7_layAside
  refine List.forall_mem_cons.mpr ⟨ok_iconst F dX7_layAside_0 (by decide) (by decide), ?_⟩
  refine List.forall_mem_cons.mpr ⟨ok_istore_n F dX7_layAside_1 rfl (by decide) (by decide), ?_⟩
  refine List.forall_mem_cons.mpr ⟨ok_iload_n F dX7_layAside_2 rfl (by decide), ?_⟩
  refine List.forall_mem_cons.mpr ⟨ok_sipush F dX7_layAside_3 (by decide) (by decide), ?_⟩
  refine List.forall_mem_cons.mpr ⟨ok_icmp_ge F dX7_layAside_6 (by decide) (by decide) (by decide), ?_⟩
  refine List.forall_mem_cons.mpr ⟨ok_aload_n F dX7_layAside_9 rfl (by decide), ?_⟩
  refine List.forall_mem_cons.mpr ⟨ok_getf F flX7_16 dX7_layAside_10 (by decide), ?_⟩
  refine List.forall_mem_cons.mpr ⟨ok_iload_n F dX7_layAside_13 rfl (by decide), ?_⟩
  refine List.forall_mem_cons.mpr ⟨ok_aload_n F dX7_layAside_14 rfl (by decide), ?_⟩
  refine List.forall_mem_cons.mpr ⟨ok_getf F flX7_7 dX7_layAside_15 (by decide), ?_⟩
  refine List.forall_mem_cons.mpr ⟨ok_iload_n F dX7_layAside_18 rfl (by decide), ?_⟩
  refine List.forall_mem_cons.mpr ⟨ok_iald F dX7_layAside_19 (by decide), ?_⟩
  refine List.forall_mem_cons.mpr ⟨ok_iast F mW_sar dX7_layAside_20 (by decide), ?_⟩
  refine List.forall_mem_cons.mpr ⟨ok_iinc F dX7_layAside_21 (by decide) (by decide) (by decide), ?_⟩
  refine List.forall_mem_cons.mpr ⟨ok_goto F dX7_layAside_24 (by decide) (by decide) (by decide), ?_⟩
  refine List.forall_mem_cons.mpr ⟨ok_vret F G dX7_layAside_27 (by decide), ?_⟩
  exact fun _ h => absurd h List.not_mem_nil
set_option maxRecDepth 100000 in
theorem w_X7_layAside : (∀ (K : Kt MT) (n : Nat) (L : xL) (st : List Value) (S : MT), nx cod_X7_layAside cut_X7_layAside K (n + 1) 0 L st S = (O_int 0 1) (nx cod_X7_layAside cut_X7_layAside K n) 0 L st S) ∧
  (∀ (K : Kt MT) (n : Nat) (L : xL) (st : List Value) (S : MT), nx cod_X7_layAside cut_X7_layAside K (n + 1) 1 L st S = (O_istore 1 1) (nx cod_X7_layAside cut_X7_layAside K n) 1 L st S) ∧
  (∀ (K : Kt MT) (n : Nat) (L : xL) (st : List Value) (S : MT), nx cod_X7_layAside cut_X7_layAside K (n + 1) 2 L st S = K 2 L st S) ∧
  (∀ (K : Kt MT) (n : Nat) (L : xL) (st : List Value) (S : MT), nx1 cod_X7_layAside cut_X7_layAside K n 2 L st S = (O_iload 1 1) (nx cod_X7_layAside cut_X7_layAside K n) 2 L st S) ∧
  (∀ (K : Kt MT) (n : Nat) (L : xL) (st : List Value) (S : MT), nx cod_X7_layAside cut_X7_layAside K (n + 1) 3 L st S = (O_int 170 3) (nx cod_X7_layAside cut_X7_layAside K n) 3 L st S) ∧
  (∀ (K : Kt MT) (n : Nat) (L : xL) (st : List Value) (S : MT), nx cod_X7_layAside cut_X7_layAside K (n + 1) 6 L st S = (O_icmp_ge 27) (nx cod_X7_layAside cut_X7_layAside K n) 6 L st S) ∧
  (∀ (K : Kt MT) (n : Nat) (L : xL) (st : List Value) (S : MT), nx cod_X7_layAside cut_X7_layAside K (n + 1) 9 L st S = (O_aload 0 1) (nx cod_X7_layAside cut_X7_layAside K n) 9 L st S) ∧
  (∀ (K : Kt MT) (n : Nat) (L : xL) (st : List Value) (S : MT), nx cod_X7_layAside cut_X7_layAside K (n + 1) 10 L st S = (O_getf mW 7 3) (nx cod_X7_layAside cut_X7_layAside K n) 10 L st S) ∧
  (∀ (K : Kt MT) (n : Nat) (L : xL) (st : List Value) (S : MT), nx cod_X7_layAside cut_X7_layAside K (n + 1) 13 L st S = (O_iload 1 1) (nx cod_X7_layAside cut_X7_layAside K n) 13 L st S) ∧
  (∀ (K : Kt MT) (n : Nat) (L : xL) (st : List Value) (S : MT), nx cod_X7_layAside cut_X7_layAside K (n + 1) 14 L st S = (O_aload 0 1) (nx cod_X7_layAside cut_X7_layAside K n) 14 L st S) ∧
  (∀ (K : Kt MT) (n : Nat) (L : xL) (st : List Value) (S : MT), nx cod_X7_layAside cut_X7_layAside K (n + 1) 15 L st S = (O_getf mW 7 0) (nx cod_X7_layAside cut_X7_layAside K n) 15 L st S) ∧
  (∀ (K : Kt MT) (n : Nat) (L : xL) (st : List Value) (S : MT), nx cod_X7_layAside cut_X7_layAside K (n + 1) 18 L st S = (O_iload 1 1) (nx cod_X7_layAside cut_X7_layAside K n) 18 L st S) ∧
  (∀ (K : Kt MT) (n : Nat) (L : xL) (st : List Value) (S : MT), nx cod_X7_layAside cut_X7_layAside K (n + 1) 19 L st S = (O_ald mW 0) (nx cod_X7_layAside cut_X7_layAside K n) 19 L st S) ∧
  (∀ (K : Kt MT) (n : Nat) (L : xL) (st : List Value) (S : MT), nx cod_X7_layAside cut_X7_layAside K (n + 1) 20 L st S = (O_ast mW 0 mW_sa) (nx cod_X7_layAside cut_X7_layAside K n) 20 L st S) ∧
  (∀ (K : Kt MT) (n : Nat) (L : xL) (st : List Value) (S : MT), nx cod_X7_layAside cut_X7_layAside K (n + 1) 21 L st S = (O_iinc 1 1) (nx cod_X7_layAside cut_X7_layAside K n) 21 L st S) ∧
  (∀ (K : Kt MT) (n : Nat) (L : xL) (st : List Value) (S : MT), nx cod_X7_layAside cut_X7_layAside K (n + 1) 24 L st S = (O_goto 2) (nx cod_X7_layAside cut_X7_layAside K n) 24 L st S) ∧
  (∀ (K : Kt MT) (n : Nat) (L : xL) (st : List Value) (S : MT), nx cod_X7_layAside cut_X7_layAside K (n + 1) 27 L st S = (O_vret) (nx cod_X7_layAside cut_X7_layAside K n) 27 L st S) ∧
  (∀ (K : Kt MT) (n : Nat) (L : xL) (st : List Value) (S : MT), nx cod_X7_layAside cut_X7_layAside K (n + 1) 100000 L st S = K 100000 L st S) := by
  repeat' apply And.intro
  all_goals (intros; rfl)
set_option maxRecDepth 100000 in
theorem mk_X7_layAside {P P' : MT} {r : Option Value}  (body : ∀ E : En, CodOk E mW cod_X7_layAside → Gd E mW 100000 [] r.toList P' → Gd E mW 0 [some (.ref 0), none] [] P) : Con yX7_layAside cX7_layAside 2 none 0 mW [.ref 0] P r P' :=
  Con.of (by decide) rfl rfl (Nat.le_of_ble_eq_true rfl) (fun E F G hr => body E (okc_X7_layAside F G) hr)
set_option maxRecDepth 10000 in
theorem con_X7_layAside (S : MT)  : Con yX7_layAside cX7_layAside 2 none 0 mW [.ref 0] S (none) (S.sAside (cp 0 0 S.all S.aside 170)) := by
  refine mk_X7_layAside (fun E C hr => ?_)
  (refine nx_ok C (cuts := cut_X7_layAside) 1000 _ _ _ _ ?_; simp only [w_X7_layAside, ops_eq, xst_eq, call_eq, oK_eq, Option.toList_some, Option.toList_none, List.cons_append, List.nil_append, List.length_cons, List.length_nil, true_and, and_true, Nat.reduceAdd, mW_F, mW_A, mW_S, mW_P, MT_gs])
  refine it_up (f := fun i g => upd g (0 + i) (S.all (0 + i))) (a := S.aside) (n := 170) (fun _ _ => True) (fun i g => Gd E mW 2 [some (.ref 0), some (.int (nI i))] [] (S.sAside g)) trivial (fun _ _ _ _ => trivial) (fun i g hi _ hn => ?_) ?_
  · have hx := lp170 hi
    have hv := nI_v (N := 170) hi (by omega)
    clear hr
    simp only [Nat.zero_add] at hn
    (refine nx1_ok C cut_X7_layAside 1000 ?_; simp only [w_X7_layAside, ops_eq, xst_eq, call_eq, oK_eq, Option.toList_some, Option.toList_none, List.cons_append, List.nil_append, List.length_cons, List.length_nil, true_and, and_true, Nat.reduceAdd, mW_F, mW_A, mW_S, mW_P, MT_gs, hx, hv, xnar_0])
    ((repeat' (with_reducible first | apply And.intro | intro _)) <;> simp_all [MT_gs])
  · (refine nx1_ok C cut_X7_layAside 1000 ?_; simp only [w_X7_layAside, ops_eq, xst_eq, call_eq, oK_eq, Option.toList_some, Option.toList_none, List.cons_append, List.nil_append, List.length_cons, List.length_nil, true_and, and_true, Nat.reduceAdd, mW_F, mW_A, mW_S, mW_P, MT_gs, show ¬ nI 170 < 170 from by decide])
    ((repeat' (with_reducible first | apply And.intro | intro _)) <;> simp_all [cp, MT_gs])
def sp_X7_layAside : Sp MT := fun av S K => match av with
  | [.ref 0] => K (none) (S.sAside (cp 0 0 S.all S.aside 170))
  | _ => False
theorem se_X7_layAside  (S : MT) (K : Option Value → MT → Prop) : sp_X7_layAside [.ref 0] S K = (K (none) (S.sAside (cp 0 0 S.all S.aside 170))) := rfl
theorem spok_X7_layAside : SpOk yX7_layAside cX7_layAside 2 none 0 mW sp_X7_layAside := by
  intro av S K h
  unfold sp_X7_layAside at h
  split at h
  · exact ⟨none, S.sAside (cp 0 0 S.all S.aside 170), trivial, con_X7_layAside S , h⟩
  · exact h.elim
def cod_X7_takeBack : List (Nat × Op MT) := [(0, O_int 0 1), (1, O_istore 1 1), (2, O_iload 1 1), (3, O_int 170 3), (6, O_icmp_ge 27), (9, O_aload 0 1), (10, O_getf mW 7 0), (13, O_iload 1 1), (14, O_aload 0 1), (15, O_getf mW 7 3), (18, O_iload 1 1), (19, O_ald mW 0), (20, O_ast mW 0 mW_sa), (21, O_iinc 1 1), (24, O_goto 2), (27, O_vret)]
abbrev cut_X7_takeBack : List Nat := [2]
set_option maxRecDepth 100000 in
theorem okc_X7_takeBack {E : En} (F : Fx E RX7 cX7_takeBack 2 0) (G : Fr E none) : CodOk E mW cod_X7_takeBack := by
  unfold CodOk cod_X7_takeBack
  refine List.forall_mem_cons.mpr ⟨ok_iconst F dX7_takeBack_0 (by decide) (by decide), ?_⟩
  refine List.forall_mem_cons.mpr ⟨ok_istore_n F dX7_takeBack_1 rfl (by decide) (by decide), ?_⟩
  refine List.forall_mem_cons.mpr ⟨ok_iload_n F dX7_takeBack_2 rfl (by decide), ?_⟩
  refine List.forall_mem_cons.mpr ⟨ok_sipush F dX7_takeBack_3 (by decide) (by decide), ?_⟩
  refine List.forall_mem_cons.mpr ⟨ok_icmp_ge F dX7_takeBack_6 (by decide) (by decide) (by decide), ?_⟩
  refine List.forall_mem_cons.mpr ⟨ok_aload_n F dX7_takeBack_9 rfl (by decide), ?_⟩
  refine List.forall_mem_cons.mpr ⟨ok_getf F flX7_7 dX7_takeBack_10 (by decide), ?_⟩
  refine List.forall_mem_cons.mpr ⟨ok_iload_n F dX7_takeBack_13 rfl (by decide), ?_⟩
  refine List.forall_mem_cons.mpr ⟨ok_aload_n F dX7_takeBack_14 rfl (by decide), ?_⟩
  refine List.forall_mem_cons.mpr ⟨ok_getf F flX7_16 dX7_takeBack_15 (by decide), ?_⟩
  refine List.forall_mem_cons.mpr ⟨ok_iload_n F dX7_takeBack_18 rfl (by decide), ?_⟩
  refine List.forall_mem_cons.mpr ⟨ok_iald F dX7_takeBack_19 (by decide), ?_⟩
  refine List.forall_mem_cons.mpr ⟨ok_iast F mW_sar dX7_takeBack_20 (by decide), ?_⟩
  refine List.forall_mem_cons.mpr ⟨ok_iinc F dX7_takeBack_21 (by decide) (by decide) (by decide), ?_⟩
  refine List.forall_mem_cons.mpr ⟨ok_goto F dX7_takeBack_24 (by decide) (by decide) (by decide), ?_⟩
  refine List.forall_mem_cons.mpr ⟨ok_vret F G dX7_takeBack_27 (by decide), ?_⟩
  exact fun _ h => absurd h List.not_mem_nil
set_option maxRecDepth 100000 in
theorem w_X7_takeBack : (∀ (K : Kt MT) (n : Nat) (L : xL) (st : List Value) (S : MT), nx cod_X7_takeBack cut_X7_takeBack K (n + 1) 0 L st S = (O_int 0 1) (nx cod_X7_takeBack cut_X7_takeBack K n) 0 L st S) ∧
  (∀ (K : Kt MT) (n : Nat) (L : xL) (st : List Value) (S : MT), nx cod_X7_takeBack cut_X7_takeBack K (n + 1) 1 L st S = (O_istore 1 1) (nx cod_X7_takeBack cut_X7_takeBack K n) 1 L st S) ∧
  (∀ (K : Kt MT) (n : Nat) (L : xL) (st : List Value) (S : MT), nx cod_X7_takeBack cut_X7_takeBack K (n + 1) 2 L st S = K 2 L st S) ∧
  (∀ (K : Kt MT) (n : Nat) (L : xL) (st : List Value) (S : MT), nx1 cod_X7_takeBack cut_X7_takeBack K n 2 L st S = (O_iload 1 1) (nx cod_X7_takeBack cut_X7_takeBack K n) 2 L st S) ∧
  (∀ (K : Kt MT) (n : Nat) (L : xL) (st : List Value) (S : MT), nx cod_X7_takeBack cut_X7_takeBack K (n + 1) 3 L st S = (O_int 170 3) (nx cod_X7_takeBack cut_X7_takeBack K n) 3 L st S) ∧
  (∀ (K : Kt MT) (n : Nat) (L : xL) (st : List Value) (S : MT), nx cod_X7_takeBack cut_X7_takeBack K (n + 1) 6 L st S = (O_icmp_ge 27) (nx cod_X7_takeBack cut_X7_takeBack K n) 6 L st S) ∧
  (∀ (K : Kt MT) (n : Nat) (L : xL) (st : List Value) (S : MT), nx cod_X7_takeBack cut_X7_takeBack K (n + 1) 9 L st S = (O_aload 0 1) (nx cod_X7_takeBack cut_X7_takeBack K n) 9 L st S) ∧
  (∀ (K : Kt MT) (n : Nat) (L : xL) (st : List Value) (S : MT), nx cod_X7_takeBack cut_X7_takeBack K (n + 1) 10 L st S = (O_getf mW 7 0) (nx cod_X7_takeBack cut_X7_takeBack K n) 10 L st S) ∧
  (∀ (K : Kt MT) (n : Nat) (L : xL) (st : List Value) (S : MT), nx cod_X7_takeBack cut_X7_takeBack K (n + 1) 13 L st S = (O_iload 1 1) (nx cod_X7_takeBack cut_X7_takeBack K n) 13 L st S) ∧
  (∀ (K : Kt MT) (n : Nat) (L : xL) (st : List Value) (S : MT), nx cod_X7_takeBack cut_X7_takeBack K (n + 1) 14 L st S = (O_aload 0 1) (nx cod_X7_takeBack cut_X7_takeBack K n) 14 L st S) ∧
  (∀ (K : Kt MT) (n : Nat) (L : xL) (st : List Value) (S : MT), nx cod_X7_takeBack cut_X7_takeBack K (n + 1) 15 L st S = (O_getf mW 7 3) (nx cod_X7_takeBack cut_X7_takeBack K n) 15 L st S) ∧
  (∀ (K : Kt MT) (n : Nat) (L : xL) (st : List Value) (S : MT), nx cod_X7_takeBack cut_X7_takeBack K (n + 1) 18 L st S = (O_iload 1 1) (nx cod_X7_takeBack cut_X7_takeBack K n) 18 L st S) ∧
  (∀ (K : Kt MT) (n : Nat) (L : xL) (st : List Value) (S : MT), nx cod_X7_takeBack cut_X7_takeBack K (n + 1) 19 L st S = (O_ald mW 0) (nx cod_X7_takeBack cut_X7_takeBack K n) 19 L st S) ∧
  (∀ (K : Kt MT) (n : Nat) (L : xL) (st : List Value) (S : MT), nx cod_X7_takeBack cut_X7_takeBack K (n + 1) 20 L st S = (O_ast mW 0 mW_sa) (nx cod_X7_takeBack cut_X7_takeBack K n) 20 L st S) ∧
  (∀ (K : Kt MT) (n : Nat) (L : xL) (st : List Value) (S : MT), nx cod_X7_takeBack cut_X7_takeBack K (n + 1) 21 L st S = (O_iinc 1 1) (nx cod_X7_takeBack cut_X7_takeBack K n) 21 L st S) ∧
  (∀ (K : Kt MT) (n : Nat) (L : xL) (st : List Value) (S : MT), nx cod_X7_takeBack cut_X7_takeBack K (n + 1) 24 L st S = (O_goto 2) (nx cod_X7_takeBack cut_X7_takeBack K n) 24 L st S) ∧
  (∀ (K : Kt MT) (n : Nat) (L : xL) (st : List Value) (S : MT), nx cod_X7_takeBack cut_X7_takeBack K (n + 1) 27 L st S = (O_vret) (nx cod_X7_takeBack cut_X7_takeBack K n) 27 L st S) ∧
  (∀ (K : Kt MT) (n : Nat) (L : xL) (st : List Value) (S : MT), nx cod_X7_takeBack cut_X7_takeBack K (n + 1) 100000 L st S = K 100000 L st S) := by
  repeat' apply And.intro
  all_goals (intros; rfl)
set_option maxRecDepth 100000 in
theorem mk_X7_takeBack {P P' : MT} {r : Option Value}  (body : ∀ E : En, CodOk E mW cod_X7_takeBack → Gd E mW 100000 [] r.toList P' → Gd E mW 0 [some (.ref 0), none] [] P) : Con yX7_takeBack cX7_takeBack 2 none 0 mW [.ref 0] P r P' :=
  Con.of (by decide) rfl rfl (Nat.le_of_ble_eq_true rfl) (fun E F G hr => body E (okc_X7_takeBack F G) hr)
set_option maxRecDepth 10000 in
theorem con_X7_takeBack (S : MT)  : Con yX7_takeBack cX7_takeBack 2 none 0 mW [.ref 0] S (none) (S.sAll (cp 0 0 S.aside S.all 170)) := by
  refine mk_X7_takeBack (fun E C hr => ?_)
  (refine nx_ok C (cuts := cut_X7_takeBack) 1000 _ _ _ _ ?_; simp only [w_X7_takeBack, ops_eq, xst_eq, call_eq, oK_eq, Option.toList_some, Option.toList_none, List.cons_append, List.nil_append, List.length_cons, List.length_nil, true_and, and_true, Nat.reduceAdd, mW_F, mW_A, mW_S, mW_P, MT_gs])
  refine it_up (f := fun i g => upd g (0 + i) (S.aside (0 + i))) (a := S.all) (n := 170) (fun _ _ => True) (fun i g => Gd E mW 2 [some (.ref 0), some (.int (nI i))] [] (S.sAll g)) trivial (fun _ _ _ _ => trivial) (fun i g hi _ hn => ?_) ?_
  · have hx := lp170 hi
    have hv := nI_v (N := 170) hi (by omega)
    clear hr
    simp only [Nat.zero_add] at hn
    (refine nx1_ok C cut_X7_takeBack 1000 ?_; simp only [w_X7_takeBack, ops_eq, xst_eq, call_eq, oK_eq, Option.toList_some, Option.toList_none, List.cons_append, List.nil_append, List.length_cons, List.length_nil, true_and, and_true, Nat.reduceAdd, mW_F, mW_A, mW_S, mW_P, MT_gs, hx, hv, xnar_0])
    ((repeat' (with_reducible first | apply And.intro | intro _)) <;> simp_all [MT_gs])
  · (refine nx1_ok C cut_X7_takeBack 1000 ?_; simp only [w_X7_takeBack, ops_eq, xst_eq, call_eq, oK_eq, Option.toList_some, Option.toList_none, List.cons_append, List.nil_append, List.length_cons, List.length_nil, true_and, and_true, Nat.reduceAdd, mW_F, mW_A, mW_S, mW_P, MT_gs, show ¬ nI 170 < 170 from by decide])
    ((repeat' (with_reducible first | apply And.intro | intro _)) <;> simp_all [cp, MT_gs])
def sp_X7_takeBack : Sp MT := fun av S K => match av with
  | [.ref 0] => K (none) (S.sAll (cp 0 0 S.aside S.all 170))
  | _ => False
theorem se_X7_takeBack  (S : MT) (K : Option Value → MT → Prop) : sp_X7_takeBack [.ref 0] S K = (K (none) (S.sAll (cp 0 0 S.aside S.all 170))) := rfl
theorem spok_X7_takeBack : SpOk yX7_takeBack cX7_takeBack 2 none 0 mW sp_X7_takeBack := by
  intro av S K h
  unfold sp_X7_takeBack at h
  split at h
  · exact ⟨none, S.sAll (cp 0 0 S.aside S.all 170), trivial, con_X7_takeBack S , h⟩
  · exact h.elim
def MT.k (S : MT) : Nat := S.savedMany.toNatClampNeg
def MT.save (S : MT) : MT := if S.k < 4 then (S.sSaved (cp (170 * S.k) 0 S.all S.saved 170)).sSavedMany (nI (S.k + 1)) else (S.sSaved (cp 510 0 S.all (sft S.saved 510) 170)).sSavedMany 4
theorem lp510 {i : Nat} (h : i < 510) : nI i < 510 ∧ nI i + 1 = nI (i + 1) ∧ nI i + 170 = nI (i + 170) := ⟨by rw [show (510 : Int32) = nI 510 from rfl, nI_ltI (by omega) (by omega)]; exact h, nI_1 i, by rw [show (170 : Int32) = nI 170 from rfl, nI_add]⟩
theorem flX7_13 : fldOk RX7 13 7 1 = true := by decide +kernel
theorem flX7_54 : fldOk RX7 54 7 2 = true := by decide +kernel
def cod_X7_save : List (Nat × Op MT) := [(0, O_aload 0 1), (1, O_getf mW 7 2), (4, O_int 4 1), (5, O_icmp_ne 49), (8, O_int 0 1), (9, O_istore 1 1), (10, O_iload 1 1), (11, O_int 510 3), (14, O_icmp_ge 39), (17, O_aload 0 1), (18, O_getf mW 7 1), (21, O_iload 1 1), (22, O_aload 0 1), (23, O_getf mW 7 1), (26, O_iload 1 1), (27, O_int 170 3), (30, O_iadd), (31, O_ald mW 0), (32, O_ast mW 0 mW_sa), (33, O_iinc 1 1), (36, O_goto 10), (39, O_aload 0 1), (40, O_dup), (41, O_getf mW 7 2), (44, O_int 1 1), (45, O_isub), (46, O_puti mW_p7_2), (49, O_int 0 1), (50, O_istore 1 1), (51, O_iload 1 1), (52, O_int 170 3), (55, O_icmp_ge 85), (58, O_aload 0 1), (59, O_getf mW 7 1), (62, O_int 170 3), (65, O_aload 0 1), (66, O_getf mW 7 2), (69, O_imul), (70, O_iload 1 1), (71, O_iadd), (72, O_aload 0 1), (73, O_getf mW 7 0), (76, O_iload 1 1), (77, O_ald mW 0), (78, O_ast mW 0 mW_sa), (79, O_iinc 1 1), (82, O_goto 51), (85, O_aload 0 1), (86, O_dup), (87, O_getf mW 7 2), (90, O_int 1 1), (91, O_iadd), (92, O_puti mW_p7_2), (95, O_vret)]
abbrev cut_X7_save : List Nat := [10, 51]
set_option maxRecDepth 100000 in
theorem okc_X7_save {E : En} (F : Fx E RX7 cX7_save 2 0) (G : Fr E none) : CodOk E mW cod_X7_save := by
  unfold CodOk cod_X7_save
  refine List.forall_mem_cons.mpr ⟨ok_aload_n F dX7_save_0 rfl (by decide), ?_⟩
  refine List.forall_mem_cons.mpr ⟨ok_getf F flX7_54 dX7_save_1 (by decide), ?_⟩
  refine List.forall_mem_cons.mpr ⟨ok_iconst F dX7_save_4 (by decide) (by decide), ?_⟩
  refine List.forall_mem_cons.mpr ⟨ok_icmp_ne F dX7_save_5 (by decide) (by decide) (by decide), ?_⟩
  refine List.forall_mem_cons.mpr ⟨ok_iconst F dX7_save_8 (by decide) (by decide), ?_⟩
  refine List.forall_mem_cons.mpr ⟨ok_istore_n F dX7_save_9 rfl (by decide) (by decide), ?_⟩
  refine List.forall_mem_cons.mpr ⟨ok_iload_n F dX7_save_10 rfl (by decide), ?_⟩
  refine List.forall_mem_cons.mpr ⟨ok_sipush F dX7_save_11 (by decide) (by decide), ?_⟩
  refine List.forall_mem_cons.mpr ⟨ok_icmp_ge F dX7_save_14 (by decide) (by decide) (by decide), ?_⟩
  refine List.forall_mem_cons.mpr ⟨ok_aload_n F dX7_save_17 rfl (by decide), ?_⟩
  refine List.forall_mem_cons.mpr ⟨ok_getf F flX7_13 dX7_save_18 (by decide), ?_⟩
  refine List.forall_mem_cons.mpr ⟨ok_iload_n F dX7_save_21 rfl (by decide), ?_⟩
  refine List.forall_mem_cons.mpr ⟨ok_aload_n F dX7_save_22 rfl (by decide), ?_⟩
  refine List.forall_mem_cons.mpr ⟨ok_getf F flX7_13 dX7_save_23 (by decide), ?_⟩
  refine List.forall_mem_cons.mpr ⟨ok_iload_n F dX7_save_26 rfl (by decide), ?_⟩
  refine List.forall_mem_cons.mpr ⟨ok_sipush F dX7_save_27 (by decide) (by decide), ?_⟩
  refine List.forall_mem_cons.mpr ⟨ok_iadd F dX7_save_30 (by decide), ?_⟩
  refine List.forall_mem_cons.mpr ⟨ok_iald F dX7_save_31 (by decide), ?_⟩
  refine List.forall_mem_cons.mpr ⟨ok_iast F mW_sar dX7_save_32 (by decide), ?_⟩
  refine List.forall_mem_cons.mpr ⟨ok_iinc F dX7_save_33 (by decide) (by decide) (by decide), ?_⟩
  refine List.forall_mem_cons.mpr ⟨ok_goto F dX7_save_36 (by decide) (by decide) (by decide), ?_⟩
  refine List.forall_mem_cons.mpr ⟨ok_aload_n F dX7_save_39 rfl (by decide), ?_⟩
  refine List.forall_mem_cons.mpr ⟨ok_dup F dX7_save_40 (by decide), ?_⟩
  refine List.forall_mem_cons.mpr ⟨ok_getf F flX7_54 dX7_save_41 (by decide), ?_⟩
  refine List.forall_mem_cons.mpr ⟨ok_iconst F dX7_save_44 (by decide) (by decide), ?_⟩
  refine List.forall_mem_cons.mpr ⟨ok_isub F dX7_save_45 (by decide), ?_⟩
  refine List.forall_mem_cons.mpr ⟨ok_puti F mW_p7_2_ok (fun _ _ _ h => by cases h; rfl) rfl flX7_54 dX7_save_46 (by decide), ?_⟩
  refine List.forall_mem_cons.mpr ⟨ok_iconst F dX7_save_49 (by decide) (by decide), ?_⟩
  refine List.forall_mem_cons.mpr ⟨ok_istore_n F dX7_save_50 rfl (by decide) (by decide), ?_⟩
  refine List.forall_mem_cons.mpr ⟨ok_iload_n F dX7_save_51 rfl (by decide), ?_⟩
  refine List.forall_mem_cons.mpr ⟨ok_sipush F dX7_save_52 (by decide) (by decide), ?_⟩
  refine List.forall_mem_cons.mpr ⟨ok_icmp_ge F dX7_save_55 (by decide) (by decide) (by decide), ?_⟩
  refine List.forall_mem_cons.mpr ⟨ok_aload_n F dX7_save_58 rfl (by decide), ?_⟩
  refine List.forall_mem_cons.mpr ⟨ok_getf F flX7_13 dX7_save_59 (by decide), ?_⟩
  refine List.forall_mem_cons.mpr ⟨ok_sipush F dX7_save_62 (by decide) (by decide), ?_⟩
  refine List.forall_mem_cons.mpr ⟨ok_aload_n F dX7_save_65 rfl (by decide), ?_⟩
  refine List.forall_mem_cons.mpr ⟨ok_getf F flX7_54 dX7_save_66 (by decide), ?_⟩
  refine List.forall_mem_cons.mpr ⟨ok_imul F dX7_save_69 (by decide), ?_⟩
  refine List.forall_mem_cons.mpr ⟨ok_iload_n F dX7_save_70 rfl (by decide), ?_⟩
  refine List.forall_mem_cons.mpr ⟨ok_iadd F dX7_save_71 (by decide), ?_⟩
  refine List.forall_mem_cons.mpr ⟨ok_aload_n F dX7_save_72 rfl (by decide), ?_⟩
  refine List.forall_mem_cons.mpr ⟨ok_getf F flX7_7 dX7_save_73 (by decide), ?_⟩
  refine List.forall_mem_cons.mpr ⟨ok_iload_n F dX7_save_76 rfl (by decide), ?_⟩
  refine List.forall_mem_cons.mpr ⟨ok_iald F dX7_save_77 (by decide), ?_⟩
  refine List.forall_mem_cons.mpr ⟨ok_iast F mW_sar dX7_save_78 (by decide), ?_⟩
  refine List.forall_mem_cons.mpr ⟨ok_iinc F dX7_save_79 (by decide) (by decide) (by decide), ?_⟩
  refine List.forall_mem_cons.mpr ⟨ok_goto F dX7_save_82 (by decide) (by decide) (by decide), ?_⟩
  refine List.forall_mem_cons.mpr ⟨ok_aload_n F dX7_save_85 rfl (by decide), ?_⟩
  refine List.forall_mem_cons.mpr ⟨ok_dup F dX7_save_86 (by decide), ?_⟩
  refine List.forall_mem_cons.mpr ⟨ok_getf F flX7_54 dX7_save_87 (by decide), ?_⟩
  refine List.forall_mem_cons.mpr ⟨ok_iconst F dX7_save_90 (by decide) (by decide), ?_⟩
  refine List.forall_mem_cons.mpr ⟨ok_iadd F dX7_save_91 (by decide), ?_⟩
  refine List.forall_mem_cons.mpr ⟨ok_puti F mW_p7_2_ok (fun _ _ _ h => by cases h; rfl) rfl flX7_54 dX7_save_92 (by decide), ?_⟩
  refine List.forall_mem_cons.mpr ⟨ok_vret F G dX7_save_95 (by decide), ?_⟩
  exact fun _ h => absurd h List.not_mem_nil
set_option maxRecDepth 100000 in
theorem w_X7_save : (∀ (K : Kt MT) (n : Nat) (L : xL) (st : List Value) (S : MT), nx cod_X7_save cut_X7_save K (n + 1) 0 L st S = (O_aload 0 1) (nx cod_X7_save cut_X7_save K n) 0 L st S) ∧
  (∀ (K : Kt MT) (n : Nat) (L : xL) (st : List Value) (S : MT), nx cod_X7_save cut_X7_save K (n + 1) 1 L st S = (O_getf mW 7 2) (nx cod_X7_save cut_X7_save K n) 1 L st S) ∧
  (∀ (K : Kt MT) (n : Nat) (L : xL) (st : List Value) (S : MT), nx cod_X7_save cut_X7_save K (n + 1) 4 L st S = (O_int 4 1) (nx cod_X7_save cut_X7_save K n) 4 L st S) ∧
  (∀ (K : Kt MT) (n : Nat) (L : xL) (st : List Value) (S : MT), nx cod_X7_save cut_X7_save K (n + 1) 5 L st S = (O_icmp_ne 49) (nx cod_X7_save cut_X7_save K n) 5 L st S) ∧
  (∀ (K : Kt MT) (n : Nat) (L : xL) (st : List Value) (S : MT), nx cod_X7_save cut_X7_save K (n + 1) 8 L st S = (O_int 0 1) (nx cod_X7_save cut_X7_save K n) 8 L st S) ∧
  (∀ (K : Kt MT) (n : Nat) (L : xL) (st : List Value) (S : MT), nx cod_X7_save cut_X7_save K (n + 1) 9 L st S = (O_istore 1 1) (nx cod_X7_save cut_X7_save K n) 9 L st S) ∧
  (∀ (K : Kt MT) (n : Nat) (L : xL) (st : List Value) (S : MT), nx cod_X7_save cut_X7_save K (n + 1) 10 L st S = K 10 L st S) ∧
  (∀ (K : Kt MT) (n : Nat) (L : xL) (st : List Value) (S : MT), nx1 cod_X7_save cut_X7_save K n 10 L st S = (O_iload 1 1) (nx cod_X7_save cut_X7_save K n) 10 L st S) ∧
  (∀ (K : Kt MT) (n : Nat) (L : xL) (st : List Value) (S : MT), nx cod_X7_save cut_X7_save K (n + 1) 11 L st S = (O_int 510 3) (nx cod_X7_save cut_X7_save K n) 11 L st S) ∧
  (∀ (K : Kt MT) (n : Nat) (L : xL) (st : List Value) (S : MT), nx cod_X7_save cut_X7_save K (n + 1) 14 L st S = (O_icmp_ge 39) (nx cod_X7_save cut_X7_save K n) 14 L st S) ∧
  (∀ (K : Kt MT) (n : Nat) (L : xL) (st : List Value) (S : MT), nx cod_X7_save cut_X7_save K (n + 1) 17 L st S = (O_aload 0 1) (nx cod_X7_save cut_X7_save K n) 17 L st S) ∧
  (∀ (K : Kt MT) (n : Nat) (L : xL) (st : List Value) (S : MT), nx cod_X7_save cut_X7_save K (n + 1) 18 L st S = (O_getf mW 7 1) (nx cod_X7_save cut_X7_save K n) 18 L st S) ∧
  (∀ (K : Kt MT) (n : Nat) (L : xL) (st : List Value) (S : MT), nx cod_X7_save cut_X7_save K (n + 1) 21 L st S = (O_iload 1 1) (nx cod_X7_save cut_X7_save K n) 21 L st S) ∧
  (∀ (K : Kt MT) (n : Nat) (L : xL) (st : List Value) (S : MT), nx cod_X7_save cut_X7_save K (n + 1) 22 L st S = (O_aload 0 1) (nx cod_X7_save cut_X7_save K n) 22 L st S) ∧
  (∀ (K : Kt MT) (n : Nat) (L : xL) (st : List Value) (S : MT), nx cod_X7_save cut_X7_save K (n + 1) 23 L st S = (O_getf mW 7 1) (nx cod_X7_save cut_X7_save K n) 23 L st S) ∧
  (∀ (K : Kt MT) (n : Nat) (L : xL) (st : List Value) (S : MT), nx cod_X7_save cut_X7_save K (n + 1) 26 L st S = (O_iload 1 1) (nx cod_X7_save cut_X7_save K n) 26 L st S) ∧
  (∀ (K : Kt MT) (n : Nat) (L : xL) (st : List Value) (S : MT), nx cod_X7_save cut_X7_save K (n + 1) 27 L st S = (O_int 170 3) (nx cod_X7_save cut_X7_save K n) 27 L st S) ∧
  (∀ (K : Kt MT) (n : Nat) (L : xL) (st : List Value) (S : MT), nx cod_X7_save cut_X7_save K (n + 1) 30 L st S = (O_iadd) (nx cod_X7_save cut_X7_save K n) 30 L st S) ∧
  (∀ (K : Kt MT) (n : Nat) (L : xL) (st : List Value) (S : MT), nx cod_X7_save cut_X7_save K (n + 1) 31 L st S = (O_ald mW 0) (nx cod_X7_save cut_X7_save K n) 31 L st S) ∧
  (∀ (K : Kt MT) (n : Nat) (L : xL) (st : List Value) (S : MT), nx cod_X7_save cut_X7_save K (n + 1) 32 L st S = (O_ast mW 0 mW_sa) (nx cod_X7_save cut_X7_save K n) 32 L st S) ∧
  (∀ (K : Kt MT) (n : Nat) (L : xL) (st : List Value) (S : MT), nx cod_X7_save cut_X7_save K (n + 1) 33 L st S = (O_iinc 1 1) (nx cod_X7_save cut_X7_save K n) 33 L st S) ∧
  (∀ (K : Kt MT) (n : Nat) (L : xL) (st : List Value) (S : MT), nx cod_X7_save cut_X7_save K (n + 1) 36 L st S = (O_goto 10) (nx cod_X7_save cut_X7_save K n) 36 L st S) ∧
  (∀ (K : Kt MT) (n : Nat) (L : xL) (st : List Value) (S : MT), nx cod_X7_save cut_X7_save K (n + 1) 39 L st S = (O_aload 0 1) (nx cod_X7_save cut_X7_save K n) 39 L st S) ∧
  (∀ (K : Kt MT) (n : Nat) (L : xL) (st : List Value) (S : MT), nx cod_X7_save cut_X7_save K (n + 1) 40 L st S = (O_dup) (nx cod_X7_save cut_X7_save K n) 40 L st S) ∧
  (∀ (K : Kt MT) (n : Nat) (L : xL) (st : List Value) (S : MT), nx cod_X7_save cut_X7_save K (n + 1) 41 L st S = (O_getf mW 7 2) (nx cod_X7_save cut_X7_save K n) 41 L st S) ∧
  (∀ (K : Kt MT) (n : Nat) (L : xL) (st : List Value) (S : MT), nx cod_X7_save cut_X7_save K (n + 1) 44 L st S = (O_int 1 1) (nx cod_X7_save cut_X7_save K n) 44 L st S) ∧
  (∀ (K : Kt MT) (n : Nat) (L : xL) (st : List Value) (S : MT), nx cod_X7_save cut_X7_save K (n + 1) 45 L st S = (O_isub) (nx cod_X7_save cut_X7_save K n) 45 L st S) ∧
  (∀ (K : Kt MT) (n : Nat) (L : xL) (st : List Value) (S : MT), nx cod_X7_save cut_X7_save K (n + 1) 46 L st S = (O_puti mW_p7_2) (nx cod_X7_save cut_X7_save K n) 46 L st S) ∧
  (∀ (K : Kt MT) (n : Nat) (L : xL) (st : List Value) (S : MT), nx cod_X7_save cut_X7_save K (n + 1) 49 L st S = (O_int 0 1) (nx cod_X7_save cut_X7_save K n) 49 L st S) ∧
  (∀ (K : Kt MT) (n : Nat) (L : xL) (st : List Value) (S : MT), nx cod_X7_save cut_X7_save K (n + 1) 50 L st S = (O_istore 1 1) (nx cod_X7_save cut_X7_save K n) 50 L st S) ∧
  (∀ (K : Kt MT) (n : Nat) (L : xL) (st : List Value) (S : MT), nx cod_X7_save cut_X7_save K (n + 1) 51 L st S = K 51 L st S) ∧
  (∀ (K : Kt MT) (n : Nat) (L : xL) (st : List Value) (S : MT), nx1 cod_X7_save cut_X7_save K n 51 L st S = (O_iload 1 1) (nx cod_X7_save cut_X7_save K n) 51 L st S) ∧
  (∀ (K : Kt MT) (n : Nat) (L : xL) (st : List Value) (S : MT), nx cod_X7_save cut_X7_save K (n + 1) 52 L st S = (O_int 170 3) (nx cod_X7_save cut_X7_save K n) 52 L st S) ∧
  (∀ (K : Kt MT) (n : Nat) (L : xL) (st : List Value) (S : MT), nx cod_X7_save cut_X7_save K (n + 1) 55 L st S = (O_icmp_ge 85) (nx cod_X7_save cut_X7_save K n) 55 L st S) ∧
  (∀ (K : Kt MT) (n : Nat) (L : xL) (st : List Value) (S : MT), nx cod_X7_save cut_X7_save K (n + 1) 58 L st S = (O_aload 0 1) (nx cod_X7_save cut_X7_save K n) 58 L st S) ∧
  (∀ (K : Kt MT) (n : Nat) (L : xL) (st : List Value) (S : MT), nx cod_X7_save cut_X7_save K (n + 1) 59 L st S = (O_getf mW 7 1) (nx cod_X7_save cut_X7_save K n) 59 L st S) ∧
  (∀ (K : Kt MT) (n : Nat) (L : xL) (st : List Value) (S : MT), nx cod_X7_save cut_X7_save K (n + 1) 62 L st S = (O_int 170 3) (nx cod_X7_save cut_X7_save K n) 62 L st S) ∧
  (∀ (K : Kt MT) (n : Nat) (L : xL) (st : List Value) (S : MT), nx cod_X7_save cut_X7_save K (n + 1) 65 L st S = (O_aload 0 1) (nx cod_X7_save cut_X7_save K n) 65 L st S) ∧
  (∀ (K : Kt MT) (n : Nat) (L : xL) (st : List Value) (S : MT), nx cod_X7_save cut_X7_save K (n + 1) 66 L st S = (O_getf mW 7 2) (nx cod_X7_save cut_X7_save K n) 66 L st S) ∧
  (∀ (K : Kt MT) (n : Nat) (L : xL) (st : List Value) (S : MT), nx cod_X7_save cut_X7_save K (n + 1) 69 L st S = (O_imul) (nx cod_X7_save cut_X7_save K n) 69 L st S) ∧
  (∀ (K : Kt MT) (n : Nat) (L : xL) (st : List Value) (S : MT), nx cod_X7_save cut_X7_save K (n + 1) 70 L st S = (O_iload 1 1) (nx cod_X7_save cut_X7_save K n) 70 L st S) ∧
  (∀ (K : Kt MT) (n : Nat) (L : xL) (st : List Value) (S : MT), nx cod_X7_save cut_X7_save K (n + 1) 71 L st S = (O_iadd) (nx cod_X7_save cut_X7_save K n) 71 L st S) ∧
  (∀ (K : Kt MT) (n : Nat) (L : xL) (st : List Value) (S : MT), nx cod_X7_save cut_X7_save K (n + 1) 72 L st S = (O_aload 0 1) (nx cod_X7_save cut_X7_save K n) 72 L st S) ∧
  (∀ (K : Kt MT) (n : Nat) (L : xL) (st : List Value) (S : MT), nx cod_X7_save cut_X7_save K (n + 1) 73 L st S = (O_getf mW 7 0) (nx cod_X7_save cut_X7_save K n) 73 L st S) ∧
  (∀ (K : Kt MT) (n : Nat) (L : xL) (st : List Value) (S : MT), nx cod_X7_save cut_X7_save K (n + 1) 76 L st S = (O_iload 1 1) (nx cod_X7_save cut_X7_save K n) 76 L st S) ∧
  (∀ (K : Kt MT) (n : Nat) (L : xL) (st : List Value) (S : MT), nx cod_X7_save cut_X7_save K (n + 1) 77 L st S = (O_ald mW 0) (nx cod_X7_save cut_X7_save K n) 77 L st S) ∧
  (∀ (K : Kt MT) (n : Nat) (L : xL) (st : List Value) (S : MT), nx cod_X7_save cut_X7_save K (n + 1) 78 L st S = (O_ast mW 0 mW_sa) (nx cod_X7_save cut_X7_save K n) 78 L st S) ∧
  (∀ (K : Kt MT) (n : Nat) (L : xL) (st : List Value) (S : MT), nx cod_X7_save cut_X7_save K (n + 1) 79 L st S = (O_iinc 1 1) (nx cod_X7_save cut_X7_save K n) 79 L st S) ∧
  (∀ (K : Kt MT) (n : Nat) (L : xL) (st : List Value) (S : MT), nx cod_X7_save cut_X7_save K (n + 1) 82 L st S = (O_goto 51) (nx cod_X7_save cut_X7_save K n) 82 L st S) ∧
  (∀ (K : Kt MT) (n : Nat) (L : xL) (st : List Value) (S : MT), nx cod_X7_save cut_X7_save K (n + 1) 85 L st S = (O_aload 0 1) (nx cod_X7_save cut_X7_save K n) 85 L st S) ∧
  (∀ (K : Kt MT) (n : Nat) (L : xL) (st : List Value) (S : MT), nx cod_X7_save cut_X7_save K (n + 1) 86 L st S = (O_dup) (nx cod_X7_save cut_X7_save K n) 86 L st S) ∧
  (∀ (K : Kt MT) (n : Nat) (L : xL) (st : List Value) (S : MT), nx cod_X7_save cut_X7_save K (n + 1) 87 L st S = (O_getf mW 7 2) (nx cod_X7_save cut_X7_save K n) 87 L st S) ∧
  (∀ (K : Kt MT) (n : Nat) (L : xL) (st : List Value) (S : MT), nx cod_X7_save cut_X7_save K (n + 1) 90 L st S = (O_int 1 1) (nx cod_X7_save cut_X7_save K n) 90 L st S) ∧
  (∀ (K : Kt MT) (n : Nat) (L : xL) (st : List Value) (S : MT), nx cod_X7_save cut_X7_save K (n + 1) 91 L st S = (O_iadd) (nx cod_X7_save cut_X7_save K n) 91 L st S) ∧
  (∀ (K : Kt MT) (n : Nat) (L : xL) (st : List Value) (S : MT), nx cod_X7_save cut_X7_save K (n + 1) 92 L st S = (O_puti mW_p7_2) (nx cod_X7_save cut_X7_save K n) 92 L st S) ∧
  (∀ (K : Kt MT) (n : Nat) (L : xL) (st : List Value) (S : MT), nx cod_X7_save cut_X7_save K (n + 1) 95 L st S = (O_vret) (nx cod_X7_save cut_X7_save K n) 95 L st S) ∧
  (∀ (K : Kt MT) (n : Nat) (L : xL) (st : List Value) (S : MT), nx cod_X7_save cut_X7_save K (n + 1) 100000 L st S = K 100000 L st S) := by
  repeat' apply And.intro
  all_goals (intros; rfl)
set_option maxRecDepth 100000 in
theorem mk_X7_save {P P' : MT} {r : Option Value}  (body : ∀ E : En, CodOk E mW cod_X7_save → Gd E mW 100000 [] r.toList P' → Gd E mW 0 [some (.ref 0), none] [] P) : Con yX7_save cX7_save 2 none 0 mW [.ref 0] P r P' :=
  Con.of (by decide) rfl rfl (Nat.le_of_ble_eq_true rfl) (fun E F G hr => body E (okc_X7_save F G) hr)
set_option maxRecDepth 10000 in
theorem con_X7_save (S : MT)  (hp : isN S.savedMany S.k 4) : Con yX7_save cX7_save 2 none 0 mW [.ref 0] S (none) (S.save) := by
  refine mk_X7_save (fun E C hr => ?_)
  have second : ∀ (T : MT) (k : Nat) (q : Option Value), k < 4 → T.savedMany = nI k → Gd E mW 100000 [] [] ((T.sSaved (cp (170 * k) 0 T.all T.saved 170)).sSavedMany (nI (k + 1))) → Gd E mW 51 [some (.ref 0), some (.int (nI 0))] [] T := by
    intro T k q hk hT hh
    refine it_up (f := fun i g => upd g (170 * k + i) (T.all (0 + i))) (a := T.saved) (n := 170) (fun _ _ => True) (fun i g => Gd E mW 51 [some (.ref 0), some (.int (nI i))] [] (T.sSaved g)) trivial (fun _ _ _ _ => trivial) (fun i g hi _ hn => ?_) ?_
    · have hx := lp170 hi
      have hv := nI_v (N := 170) hi (by omega)
      have hw := nI_v (i := 170 * k + i) (N := 680) (by omega) (by omega)
      have e : (170 : Int32) * nI k + nI i = nI (170 * k + i) := by rw [show (170 : Int32) = nI 170 from rfl, pk_mul, nI_add]
      clear hr hh
      simp only [Nat.zero_add] at hn
      (refine nx1_ok C cut_X7_save 1000 ?_; simp only [w_X7_save, ops_eq, xst_eq, call_eq, oK_eq, Option.toList_some, Option.toList_none, List.cons_append, List.nil_append, List.length_cons, List.length_nil, true_and, and_true, Nat.reduceAdd, mW_F, mW_A, mW_S, mW_P, MT_gs, hx, hv, hw, xnar_0, hT, e])
      ((repeat' (with_reducible first | apply And.intro | intro _)) <;> simp_all [MT_gs])
    · (refine nx1_ok C cut_X7_save 1000 ?_; simp only [w_X7_save, ops_eq, xst_eq, call_eq, oK_eq, Option.toList_some, Option.toList_none, List.cons_append, List.nil_append, List.length_cons, List.length_nil, true_and, and_true, Nat.reduceAdd, mW_F, mW_A, mW_S, mW_P, MT_gs, show ¬ nI 170 < 170 from by decide, hT, nI_1])
      ((repeat' (with_reducible first | apply And.intro | intro _)) <;> simp_all [cp, MT_gs])
  obtain ⟨h1, h2, h3⟩ := hp
  by_cases c : S.k < 4
  · have hs := second S S.k none c h1 (by simpa [MT.save, c] using hr)
    have hne : ¬ S.savedMany = 4 := by
      rw [h1, show (4 : Int32) = nI 4 from rfl, nI_eq (by omega) (by omega)]
      omega
    clear second hr
    (refine nx_ok C (cuts := cut_X7_save) 1000 _ _ _ _ ?_; simp only [w_X7_save, ops_eq, xst_eq, call_eq, oK_eq, Option.toList_some, Option.toList_none, List.cons_append, List.nil_append, List.length_cons, List.length_nil, true_and, and_true, Nat.reduceAdd, mW_F, mW_A, mW_S, mW_P, MT_gs, hne])
    ((repeat' (with_reducible first | apply And.intro | intro _)) <;> simp_all [nI_0, MT_gs])
  · have hs4 : S.savedMany = 4 := by rw [h1, show S.k = 4 by omega]; rfl
    have hs := second ((S.sSaved (sft S.saved 510)).sSavedMany 3) 3 none (by omega) rfl (by
      have e : S.save = (((S.sSaved (sft S.saved 510)).sSavedMany 3).sSaved (cp 510 0 S.all (sft S.saved 510) 170)).sSavedMany (nI 4) := by unfold MT.save; rw [if_neg c]; rfl
      rw [e] at hr
      exact hr)
    clear second hr
    have key : Gd E mW 10 [some (.ref 0), some (.int (nI 0))] [] S := by
      refine it_up (f := fun i g => upd g i (g (i + 170))) (a := S.saved) (n := 510) (fun _ _ => True) (fun i g => Gd E mW 10 [some (.ref 0), some (.int (nI i))] [] (S.sSaved g)) trivial (fun _ _ _ _ => trivial) (fun i g hi _ hn => ?_) ?_
      · have hx := lp510 hi
        have hv := nI_v (N := 680) (i := i) (by omega) (by omega)
        have hw := nI_v (N := 680) (i := i + 170) (by omega) (by omega)
        clear hs
        (refine nx1_ok C cut_X7_save 1000 ?_; simp only [w_X7_save, ops_eq, xst_eq, call_eq, oK_eq, Option.toList_some, Option.toList_none, List.cons_append, List.nil_append, List.length_cons, List.length_nil, true_and, and_true, Nat.reduceAdd, mW_F, mW_A, mW_S, mW_P, MT_gs, hx, hv, hw, xnar_0])
        ((repeat' (with_reducible first | apply And.intro | intro _)) <;> simp_all [MT_gs])
      · (refine nx1_ok C cut_X7_save 1000 ?_; simp only [w_X7_save, ops_eq, xst_eq, call_eq, oK_eq, Option.toList_some, Option.toList_none, List.cons_append, List.nil_append, List.length_cons, List.length_nil, true_and, and_true, Nat.reduceAdd, mW_F, mW_A, mW_S, mW_P, MT_gs, show ¬ nI 510 < 510 from by decide, hs4, show (4 : Int32) - 1 = 3 from rfl])
        ((repeat' (with_reducible first | apply And.intro | intro _)) <;> simp_all [sft, nI_0, MT_gs])
    (refine nx_ok C (cuts := cut_X7_save) 1000 _ _ _ _ ?_; simp only [w_X7_save, ops_eq, xst_eq, call_eq, oK_eq, Option.toList_some, Option.toList_none, List.cons_append, List.nil_append, List.length_cons, List.length_nil, true_and, and_true, Nat.reduceAdd, mW_F, mW_A, mW_S, mW_P, MT_gs, hs4])
    ((repeat' (with_reducible first | apply And.intro | intro _)) <;> simp_all [nI_0, MT_gs])
def sp_X7_save : Sp MT := fun av S K => match av with
  | [.ref 0] => (isN S.savedMany S.k 4) ∧ K (none) (S.save)
  | _ => False
theorem se_X7_save  (S : MT) (K : Option Value → MT → Prop) : sp_X7_save [.ref 0] S K = ((isN S.savedMany S.k 4) ∧ K (none) (S.save)) := rfl
theorem spok_X7_save : SpOk yX7_save cX7_save 2 none 0 mW sp_X7_save := by
  intro av S K h
  unfold sp_X7_save at h
  split at h
  · exact ⟨none, S.save, trivial, con_X7_save S  h.1, h.2⟩
  · exact h.elim
def cod_X7_undo : List (Nat × Op MT) := [(0, O_aload 0 1), (1, O_getf mW 7 2), (4, O_if_ne 10), (7, O_int (-1000002) 2), (9, O_iret), (10, O_aload 0 1), (11, O_dup), (12, O_getf mW 7 2), (15, O_int 1 1), (16, O_isub), (17, O_puti mW_p7_2), (20, O_int 0 1), (21, O_istore 1 1), (22, O_iload 1 1), (23, O_int 170 3), (26, O_icmp_ge 56), (29, O_aload 0 1), (30, O_getf mW 7 0), (33, O_iload 1 1), (34, O_aload 0 1), (35, O_getf mW 7 1), (38, O_int 170 3), (41, O_aload 0 1), (42, O_getf mW 7 2), (45, O_imul), (46, O_iload 1 1), (47, O_iadd), (48, O_ald mW 0), (49, O_ast mW 0 mW_sa), (50, O_iinc 1 1), (53, O_goto 22), (56, O_aload 0 1), (57, O_getf mW 7 2), (60, O_iret)]
abbrev cut_X7_undo : List Nat := [22]
set_option maxRecDepth 100000 in
theorem okc_X7_undo {E : En} (F : Fx E RX7 cX7_undo 2 0) (G : Fr E (some .int)) : CodOk E mW cod_X7_undo := by
  unfold CodOk cod_X7_undo
  refine List.forall_mem_cons.mpr ⟨ok_aload_n F dX7_undo_0 rfl (by decide), ?_⟩
  refine List.forall_mem_cons.mpr ⟨ok_getf F flX7_54 dX7_undo_1 (by decide), ?_⟩
  refine List.forall_mem_cons.mpr ⟨ok_if_ne F dX7_undo_4 (by decide) (by decide) (by decide), ?_⟩
  refine List.forall_mem_cons.mpr ⟨ok_ldc F (ix := 123) (wsHas_mem (l := [Jvm.Cond.constant RX7 123 (-1000002)]) (by decide +kernel) (by simp)) dX7_undo_7 (by decide), ?_⟩
  refine List.forall_mem_cons.mpr ⟨ok_iret F G dX7_undo_9 (by decide), ?_⟩
  refine List.forall_mem_cons.mpr ⟨ok_aload_n F dX7_undo_10 rfl (by decide), ?_⟩
  refine List.forall_mem_cons.mpr ⟨ok_dup F dX7_undo_11 (by decide), ?_⟩
  refine List.forall_mem_cons.mpr ⟨ok_getf F flX7_54 dX7_undo_12 (by decide), ?_⟩
  refine List.forall_mem_cons.mpr ⟨ok_iconst F dX7_undo_15 (by decide) (by decide), ?_⟩
  refine List.forall_mem_cons.mpr ⟨ok_isub F dX7_undo_16 (by decide), ?_⟩
  refine List.forall_mem_cons.mpr ⟨ok_puti F mW_p7_2_ok (fun _ _ _ h => by cases h; rfl) rfl flX7_54 dX7_undo_17 (by decide), ?_⟩
  refine List.forall_mem_cons.mpr ⟨ok_iconst F dX7_undo_20 (by decide) (by decide), ?_⟩
  refine List.forall_mem_cons.mpr ⟨ok_istore_n F dX7_undo_21 rfl (by decide) (by decide), ?_⟩
  refine List.forall_mem_cons.mpr ⟨ok_iload_n F dX7_undo_22 rfl (by decide), ?_⟩
  refine List.forall_mem_cons.mpr ⟨ok_sipush F dX7_undo_23 (by decide) (by decide), ?_⟩
  refine List.forall_mem_cons.mpr ⟨ok_icmp_ge F dX7_undo_26 (by decide) (by decide) (by decide), ?_⟩
  refine List.forall_mem_cons.mpr ⟨ok_aload_n F dX7_undo_29 rfl (by decide), ?_⟩
  refine List.forall_mem_cons.mpr ⟨ok_getf F flX7_7 dX7_undo_30 (by decide), ?_⟩
  refine List.forall_mem_cons.mpr ⟨ok_iload_n F dX7_undo_33 rfl (by decide), ?_⟩
  refine List.forall_mem_cons.mpr ⟨ok_aload_n F dX7_undo_34 rfl (by decide), ?_⟩
  refine List.forall_mem_cons.mpr ⟨ok_getf F flX7_13 dX7_undo_35 (by decide), ?_⟩
  refine List.forall_mem_cons.mpr ⟨ok_sipush F dX7_undo_38 (by decide) (by decide), ?_⟩
  refine List.forall_mem_cons.mpr ⟨ok_aload_n F dX7_undo_41 rfl (by decide), ?_⟩
  refine List.forall_mem_cons.mpr ⟨ok_getf F flX7_54 dX7_undo_42 (by decide), ?_⟩
  refine List.forall_mem_cons.mpr ⟨ok_imul F dX7_undo_45 (by decide), ?_⟩
  refine List.forall_mem_cons.mpr ⟨ok_iload_n F dX7_undo_46 rfl (by decide), ?_⟩
  refine List.forall_mem_cons.mpr ⟨ok_iadd F dX7_undo_47 (by decide), ?_⟩
  refine List.forall_mem_cons.mpr ⟨ok_iald F dX7_undo_48 (by decide), ?_⟩
  refine List.forall_mem_cons.mpr ⟨ok_iast F mW_sar dX7_undo_49 (by decide), ?_⟩
  refine List.forall_mem_cons.mpr ⟨ok_iinc F dX7_undo_50 (by decide) (by decide) (by decide), ?_⟩
  refine List.forall_mem_cons.mpr ⟨ok_goto F dX7_undo_53 (by decide) (by decide) (by decide), ?_⟩
  refine List.forall_mem_cons.mpr ⟨ok_aload_n F dX7_undo_56 rfl (by decide), ?_⟩
  refine List.forall_mem_cons.mpr ⟨ok_getf F flX7_54 dX7_undo_57 (by decide), ?_⟩
  refine List.forall_mem_cons.mpr ⟨ok_iret F G dX7_undo_60 (by decide), ?_⟩
  exact fun _ h => absurd h List.not_mem_nil
set_option maxRecDepth 100000 in
theorem w_X7_undo : (∀ (K : Kt MT) (n : Nat) (L : xL) (st : List Value) (S : MT), nx cod_X7_undo cut_X7_undo K (n + 1) 0 L st S = (O_aload 0 1) (nx cod_X7_undo cut_X7_undo K n) 0 L st S) ∧
  (∀ (K : Kt MT) (n : Nat) (L : xL) (st : List Value) (S : MT), nx cod_X7_undo cut_X7_undo K (n + 1) 1 L st S = (O_getf mW 7 2) (nx cod_X7_undo cut_X7_undo K n) 1 L st S) ∧
  (∀ (K : Kt MT) (n : Nat) (L : xL) (st : List Value) (S : MT), nx cod_X7_undo cut_X7_undo K (n + 1) 4 L st S = (O_if_ne 10) (nx cod_X7_undo cut_X7_undo K n) 4 L st S) ∧
  (∀ (K : Kt MT) (n : Nat) (L : xL) (st : List Value) (S : MT), nx cod_X7_undo cut_X7_undo K (n + 1) 7 L st S = (O_int (-1000002) 2) (nx cod_X7_undo cut_X7_undo K n) 7 L st S) ∧
  (∀ (K : Kt MT) (n : Nat) (L : xL) (st : List Value) (S : MT), nx cod_X7_undo cut_X7_undo K (n + 1) 9 L st S = (O_iret) (nx cod_X7_undo cut_X7_undo K n) 9 L st S) ∧
  (∀ (K : Kt MT) (n : Nat) (L : xL) (st : List Value) (S : MT), nx cod_X7_undo cut_X7_undo K (n + 1) 10 L st S = (O_aload 0 1) (nx cod_X7_undo cut_X7_undo K n) 10 L st S) ∧
  (∀ (K : Kt MT) (n : Nat) (L : xL) (st : List Value) (S : MT), nx cod_X7_undo cut_X7_undo K (n + 1) 11 L st S = (O_dup) (nx cod_X7_undo cut_X7_undo K n) 11 L st S) ∧
  (∀ (K : Kt MT) (n : Nat) (L : xL) (st : List Value) (S : MT), nx cod_X7_undo cut_X7_undo K (n + 1) 12 L st S = (O_getf mW 7 2) (nx cod_X7_undo cut_X7_undo K n) 12 L st S) ∧
  (∀ (K : Kt MT) (n : Nat) (L : xL) (st : List Value) (S : MT), nx cod_X7_undo cut_X7_undo K (n + 1) 15 L st S = (O_int 1 1) (nx cod_X7_undo cut_X7_undo K n) 15 L st S) ∧
  (∀ (K : Kt MT) (n : Nat) (L : xL) (st : List Value) (S : MT), nx cod_X7_undo cut_X7_undo K (n + 1) 16 L st S = (O_isub) (nx cod_X7_undo cut_X7_undo K n) 16 L st S) ∧
  (∀ (K : Kt MT) (n : Nat) (L : xL) (st : List Value) (S : MT), nx cod_X7_undo cut_X7_undo K (n + 1) 17 L st S = (O_puti mW_p7_2) (nx cod_X7_undo cut_X7_undo K n) 17 L st S) ∧
  (∀ (K : Kt MT) (n : Nat) (L : xL) (st : List Value) (S : MT), nx cod_X7_undo cut_X7_undo K (n + 1) 20 L st S = (O_int 0 1) (nx cod_X7_undo cut_X7_undo K n) 20 L st S) ∧
  (∀ (K : Kt MT) (n : Nat) (L : xL) (st : List Value) (S : MT), nx cod_X7_undo cut_X7_undo K (n + 1) 21 L st S = (O_istore 1 1) (nx cod_X7_undo cut_X7_undo K n) 21 L st S) ∧
  (∀ (K : Kt MT) (n : Nat) (L : xL) (st : List Value) (S : MT), nx cod_X7_undo cut_X7_undo K (n + 1) 22 L st S = K 22 L st S) ∧
  (∀ (K : Kt MT) (n : Nat) (L : xL) (st : List Value) (S : MT), nx1 cod_X7_undo cut_X7_undo K n 22 L st S = (O_iload 1 1) (nx cod_X7_undo cut_X7_undo K n) 22 L st S) ∧
  (∀ (K : Kt MT) (n : Nat) (L : xL) (st : List Value) (S : MT), nx cod_X7_undo cut_X7_undo K (n + 1) 23 L st S = (O_int 170 3) (nx cod_X7_undo cut_X7_undo K n) 23 L st S) ∧
  (∀ (K : Kt MT) (n : Nat) (L : xL) (st : List Value) (S : MT), nx cod_X7_undo cut_X7_undo K (n + 1) 26 L st S = (O_icmp_ge 56) (nx cod_X7_undo cut_X7_undo K n) 26 L st S) ∧
  (∀ (K : Kt MT) (n : Nat) (L : xL) (st : List Value) (S : MT), nx cod_X7_undo cut_X7_undo K (n + 1) 29 L st S = (O_aload 0 1) (nx cod_X7_undo cut_X7_undo K n) 29 L st S) ∧
  (∀ (K : Kt MT) (n : Nat) (L : xL) (st : List Value) (S : MT), nx cod_X7_undo cut_X7_undo K (n + 1) 30 L st S = (O_getf mW 7 0) (nx cod_X7_undo cut_X7_undo K n) 30 L st S) ∧
  (∀ (K : Kt MT) (n : Nat) (L : xL) (st : List Value) (S : MT), nx cod_X7_undo cut_X7_undo K (n + 1) 33 L st S = (O_iload 1 1) (nx cod_X7_undo cut_X7_undo K n) 33 L st S) ∧
  (∀ (K : Kt MT) (n : Nat) (L : xL) (st : List Value) (S : MT), nx cod_X7_undo cut_X7_undo K (n + 1) 34 L st S = (O_aload 0 1) (nx cod_X7_undo cut_X7_undo K n) 34 L st S) ∧
  (∀ (K : Kt MT) (n : Nat) (L : xL) (st : List Value) (S : MT), nx cod_X7_undo cut_X7_undo K (n + 1) 35 L st S = (O_getf mW 7 1) (nx cod_X7_undo cut_X7_undo K n) 35 L st S) ∧
  (∀ (K : Kt MT) (n : Nat) (L : xL) (st : List Value) (S : MT), nx cod_X7_undo cut_X7_undo K (n + 1) 38 L st S = (O_int 170 3) (nx cod_X7_undo cut_X7_undo K n) 38 L st S) ∧
  (∀ (K : Kt MT) (n : Nat) (L : xL) (st : List Value) (S : MT), nx cod_X7_undo cut_X7_undo K (n + 1) 41 L st S = (O_aload 0 1) (nx cod_X7_undo cut_X7_undo K n) 41 L st S) ∧
  (∀ (K : Kt MT) (n : Nat) (L : xL) (st : List Value) (S : MT), nx cod_X7_undo cut_X7_undo K (n + 1) 42 L st S = (O_getf mW 7 2) (nx cod_X7_undo cut_X7_undo K n) 42 L st S) ∧
  (∀ (K : Kt MT) (n : Nat) (L : xL) (st : List Value) (S : MT), nx cod_X7_undo cut_X7_undo K (n + 1) 45 L st S = (O_imul) (nx cod_X7_undo cut_X7_undo K n) 45 L st S) ∧
  (∀ (K : Kt MT) (n : Nat) (L : xL) (st : List Value) (S : MT), nx cod_X7_undo cut_X7_undo K (n + 1) 46 L st S = (O_iload 1 1) (nx cod_X7_undo cut_X7_undo K n) 46 L st S) ∧
  (∀ (K : Kt MT) (n : Nat) (L : xL) (st : List Value) (S : MT), nx cod_X7_undo cut_X7_undo K (n + 1) 47 L st S = (O_iadd) (nx cod_X7_undo cut_X7_undo K n) 47 L st S) ∧
  (∀ (K : Kt MT) (n : Nat) (L : xL) (st : List Value) (S : MT), nx cod_X7_undo cut_X7_undo K (n + 1) 48 L st S = (O_ald mW 0) (nx cod_X7_undo cut_X7_undo K n) 48 L st S) ∧
  (∀ (K : Kt MT) (n : Nat) (L : xL) (st : List Value) (S : MT), nx cod_X7_undo cut_X7_undo K (n + 1) 49 L st S = (O_ast mW 0 mW_sa) (nx cod_X7_undo cut_X7_undo K n) 49 L st S) ∧
  (∀ (K : Kt MT) (n : Nat) (L : xL) (st : List Value) (S : MT), nx cod_X7_undo cut_X7_undo K (n + 1) 50 L st S = (O_iinc 1 1) (nx cod_X7_undo cut_X7_undo K n) 50 L st S) ∧
  (∀ (K : Kt MT) (n : Nat) (L : xL) (st : List Value) (S : MT), nx cod_X7_undo cut_X7_undo K (n + 1) 53 L st S = (O_goto 22) (nx cod_X7_undo cut_X7_undo K n) 53 L st S) ∧
  (∀ (K : Kt MT) (n : Nat) (L : xL) (st : List Value) (S : MT), nx cod_X7_undo cut_X7_undo K (n + 1) 56 L st S = (O_aload 0 1) (nx cod_X7_undo cut_X7_undo K n) 56 L st S) ∧
  (∀ (K : Kt MT) (n : Nat) (L : xL) (st : List Value) (S : MT), nx cod_X7_undo cut_X7_undo K (n + 1) 57 L st S = (O_getf mW 7 2) (nx cod_X7_undo cut_X7_undo K n) 57 L st S) ∧
  (∀ (K : Kt MT) (n : Nat) (L : xL) (st : List Value) (S : MT), nx cod_X7_undo cut_X7_undo K (n + 1) 60 L st S = (O_iret) (nx cod_X7_undo cut_X7_undo K n) 60 L st S) ∧
  (∀ (K : Kt MT) (n : Nat) (L : xL) (st : List Value) (S : MT), nx cod_X7_undo cut_X7_undo K (n + 1) 100000 L st S = K 100000 L st S) := by
  repeat' apply And.intro
  all_goals (intros; rfl)
set_option maxRecDepth 100000 in
theorem mk_X7_undo {P P' : MT} {r : Option Value}  (body : ∀ E : En, CodOk E mW cod_X7_undo → Gd E mW 100000 [] r.toList P' → Gd E mW 0 [some (.ref 0), none] [] P) : Con yX7_undo cX7_undo 2 (some .int) 0 mW [.ref 0] P r P' :=
  Con.of (by decide) rfl rfl (Nat.le_of_ble_eq_true rfl) (fun E F G hr => body E (okc_X7_undo F G) hr)
set_option maxRecDepth 10000 in
theorem con_X7_undo (S : MT)  (hp : isN S.savedMany S.k 4) : Con yX7_undo cX7_undo 2 (some .int) 0 mW [.ref 0] S (some (.int (if S.k = 0 then -1000002 else nI (S.k - 1)))) (if S.k = 0 then S else (S.sSavedMany (nI (S.k - 1))).sAll (cp 0 (170 * (S.k - 1)) S.saved S.all 170)) := by
  refine mk_X7_undo (fun E C hr => ?_)
  obtain ⟨h1, h2, h3⟩ := hp
  by_cases c : S.k = 0
  · have hs : S.savedMany = 0 := by rw [h1, c]; rfl
    rw [if_pos c, if_pos c] at hr
    (refine nx_ok C (cuts := cut_X7_undo) 1000 _ _ _ _ ?_; simp only [w_X7_undo, ops_eq, xst_eq, call_eq, oK_eq, Option.toList_some, Option.toList_none, List.cons_append, List.nil_append, List.length_cons, List.length_nil, true_and, and_true, Nat.reduceAdd, mW_F, mW_A, mW_S, mW_P, MT_gs, hs])
    ((repeat' (with_reducible first | apply And.intro | intro _)) <;> simp_all [MT_gs])
  · rw [if_neg c, if_neg c] at hr
    have hne : ¬ S.savedMany = 0 := by
      rw [h1, show (0 : Int32) = nI 0 from rfl, nI_eq (by omega) (by omega)]
      exact c
    have e : S.savedMany - 1 = nI (S.k - 1) := by rw [h1, show (1 : Int32) = nI 1 from rfl, pk_sub (by omega)]
    have key : Gd E mW 22 [some (.ref 0), some (.int (nI 0))] [] (S.sSavedMany (nI (S.k - 1))) := by
      refine it_up (f := fun i g => upd g (0 + i) (S.saved (170 * (S.k - 1) + i))) (a := S.all) (n := 170) (fun _ _ => True) (fun i g => Gd E mW 22 [some (.ref 0), some (.int (nI i))] [] ((S.sSavedMany (nI (S.k - 1))).sAll g)) trivial (fun _ _ _ _ => trivial) (fun i g hi _ hn => ?_) ?_
      · have hx := lp170 hi
        have hv := nI_v (N := 170) hi (by omega)
        have hw := nI_v (i := 170 * (S.k - 1) + i) (N := 680) (by omega) (by omega)
        have e : (170 : Int32) * nI (S.k - 1) + nI i = nI (170 * (S.k - 1) + i) := by rw [show (170 : Int32) = nI 170 from rfl, pk_mul, nI_add]
        clear hr
        simp only [Nat.zero_add] at hn
        (refine nx1_ok C cut_X7_undo 1000 ?_; simp only [w_X7_undo, ops_eq, xst_eq, call_eq, oK_eq, Option.toList_some, Option.toList_none, List.cons_append, List.nil_append, List.length_cons, List.length_nil, true_and, and_true, Nat.reduceAdd, mW_F, mW_A, mW_S, mW_P, MT_gs, hx, hv, hw, xnar_0, e])
        ((repeat' (with_reducible first | apply And.intro | intro _)) <;> simp_all [MT_gs])
      · (refine nx1_ok C cut_X7_undo 1000 ?_; simp only [w_X7_undo, ops_eq, xst_eq, call_eq, oK_eq, Option.toList_some, Option.toList_none, List.cons_append, List.nil_append, List.length_cons, List.length_nil, true_and, and_true, Nat.reduceAdd, mW_F, mW_A, mW_S, mW_P, MT_gs, show ¬ nI 170 < 170 from by decide])
        ((repeat' (with_reducible first | apply And.intro | intro _)) <;> simp_all [cp, MT_gs])
    clear hr
    (refine nx_ok C (cuts := cut_X7_undo) 1000 _ _ _ _ ?_; simp only [w_X7_undo, ops_eq, xst_eq, call_eq, oK_eq, Option.toList_some, Option.toList_none, List.cons_append, List.nil_append, List.length_cons, List.length_nil, true_and, and_true, Nat.reduceAdd, mW_F, mW_A, mW_S, mW_P, MT_gs, hne, e])
    ((repeat' (with_reducible first | apply And.intro | intro _)) <;> simp_all [nI_0, MT_gs])
def sp_X7_undo : Sp MT := fun av S K => match av with
  | [.ref 0] => (isN S.savedMany S.k 4) ∧ K (some (.int (if S.k = 0 then -1000002 else nI (S.k - 1)))) (if S.k = 0 then S else (S.sSavedMany (nI (S.k - 1))).sAll (cp 0 (170 * (S.k - 1)) S.saved S.all 170))
  | _ => False
theorem se_X7_undo  (S : MT) (K : Option Value → MT → Prop) : sp_X7_undo [.ref 0] S K = ((isN S.savedMany S.k 4) ∧ K (some (.int (if S.k = 0 then -1000002 else nI (S.k - 1)))) (if S.k = 0 then S else (S.sSavedMany (nI (S.k - 1))).sAll (cp 0 (170 * (S.k - 1)) S.saved S.all 170))) := rfl
theorem spok_X7_undo : SpOk yX7_undo cX7_undo 2 (some .int) 0 mW sp_X7_undo := by
  intro av S K h
  unfold sp_X7_undo at h
  split at h
  · exact ⟨some (.int (if S.k = 0 then -1000002 else nI (S.k - 1))), if S.k = 0 then S else (S.sSavedMany (nI (S.k - 1))).sAll (cp 0 (170 * (S.k - 1)) S.saved S.all 170), trivial, con_X7_undo S  h.1, h.2⟩
  · exact h.elim
def MT.tn (S : MT) : Nat := S.textLong.toNatClampNeg
theorem flX7_19 : fldOk RX7 19 7 5 = true := by decide +kernel
theorem flX7_234 : fldOk RX7 234 7 6 = true := by decide +kernel
def cod_X7_type : List (Nat × Op MT) := [(0, O_iload 1 1), (1, O_i2l), (2, O_long 32 3), (5, O_long 126 3), (8, O_callS 3 sp_X7_in), (11, O_if_ne 17), (14, O_int (-1000001) 2), (16, O_iret), (17, O_aload 0 1), (18, O_getf mW 7 6), (21, O_int 60 2), (23, O_icmp_ne 29), (26, O_int (-1000003) 2), (28, O_iret), (29, O_aload 0 1), (30, O_getf mW 7 5), (33, O_aload 0 1), (34, O_getf mW 7 6), (37, O_iload 1 1), (38, O_ast mW 0 mW_sa), (39, O_aload 0 1), (40, O_dup), (41, O_getf mW 7 6), (44, O_int 1 1), (45, O_iadd), (46, O_puti mW_p7_6), (49, O_aload 0 1), (50, O_getf mW 7 6), (53, O_iret)]
abbrev cut_X7_type : List Nat := []
set_option maxRecDepth 100000 in
theorem okc_X7_type {E : En} (F : Fx E RX7 cX7_type 2 1) (G : Fr E (some .int)) : CodOk E mW cod_X7_type := by
  unfold CodOk cod_X7_type
  refine List.forall_mem_cons.mpr ⟨ok_iload_n F dX7_type_0 rfl (by decide), ?_⟩
  refine List.forall_mem_cons.mpr ⟨ok_i2l F dX7_type_1 (by decide), ?_⟩
  refine List.forall_mem_cons.mpr ⟨ok_ldc2 F (ix := 241) (wsHas_mem (l := [Jvm.Cond.constantLong RX7 241 32]) (by decide +kernel) (by simp)) dX7_type_2 (by decide), ?_⟩
  refine List.forall_mem_cons.mpr ⟨ok_ldc2 F (ix := 243) (wsHas_mem (l := [Jvm.Cond.constantLong RX7 243 126]) (by decide +kernel) (by simp)) dX7_type_5 (by decide), ?_⟩
  refine List.forall_mem_cons.mpr ⟨ok_callS F spok_X7_in (by decide +kernel) rfl (by decide) dX7_type_8 (by decide), ?_⟩
  refine List.forall_mem_cons.mpr ⟨ok_if_ne F dX7_type_11 (by decide) (by decide) (by decide), ?_⟩
  refine List.forall_mem_cons.mpr ⟨ok_ldc F (ix := 62) (wsHas_mem (l := [Jvm.Cond.constant RX7 62 (-1000001)]) (by decide +kernel) (by simp)) dX7_type_14 (by decide), ?_⟩
  refine List.forall_mem_cons.mpr ⟨ok_iret F G dX7_type_16 (by decide), ?_⟩
  refine List.forall_mem_cons.mpr ⟨ok_aload_n F dX7_type_17 rfl (by decide), ?_⟩
  refine List.forall_mem_cons.mpr ⟨ok_getf F flX7_234 dX7_type_18 (by decide), ?_⟩
  refine List.forall_mem_cons.mpr ⟨ok_bipush F dX7_type_21 (by decide) (by decide), ?_⟩
  refine List.forall_mem_cons.mpr ⟨ok_icmp_ne F dX7_type_23 (by decide) (by decide) (by decide), ?_⟩
  refine List.forall_mem_cons.mpr ⟨ok_ldc F (ix := 73) (wsHas_mem (l := [Jvm.Cond.constant RX7 73 (-1000003)]) (by decide +kernel) (by simp)) dX7_type_26 (by decide), ?_⟩
  refine List.forall_mem_cons.mpr ⟨ok_iret F G dX7_type_28 (by decide), ?_⟩
  refine List.forall_mem_cons.mpr ⟨ok_aload_n F dX7_type_29 rfl (by decide), ?_⟩
  refine List.forall_mem_cons.mpr ⟨ok_getf F flX7_19 dX7_type_30 (by decide), ?_⟩
  refine List.forall_mem_cons.mpr ⟨ok_aload_n F dX7_type_33 rfl (by decide), ?_⟩
  refine List.forall_mem_cons.mpr ⟨ok_getf F flX7_234 dX7_type_34 (by decide), ?_⟩
  refine List.forall_mem_cons.mpr ⟨ok_iload_n F dX7_type_37 rfl (by decide), ?_⟩
  refine List.forall_mem_cons.mpr ⟨ok_iast F mW_sar dX7_type_38 (by decide), ?_⟩
  refine List.forall_mem_cons.mpr ⟨ok_aload_n F dX7_type_39 rfl (by decide), ?_⟩
  refine List.forall_mem_cons.mpr ⟨ok_dup F dX7_type_40 (by decide), ?_⟩
  refine List.forall_mem_cons.mpr ⟨ok_getf F flX7_234 dX7_type_41 (by decide), ?_⟩
  refine List.forall_mem_cons.mpr ⟨ok_iconst F dX7_type_44 (by decide) (by decide), ?_⟩
  refine List.forall_mem_cons.mpr ⟨ok_iadd F dX7_type_45 (by decide), ?_⟩
  refine List.forall_mem_cons.mpr ⟨ok_puti F mW_p7_6_ok (fun _ _ _ h => by cases h; rfl) rfl flX7_234 dX7_type_46 (by decide), ?_⟩
  refine List.forall_mem_cons.mpr ⟨ok_aload_n F dX7_type_49 rfl (by decide), ?_⟩
  refine List.forall_mem_cons.mpr ⟨ok_getf F flX7_234 dX7_type_50 (by decide), ?_⟩
  refine List.forall_mem_cons.mpr ⟨ok_iret F G dX7_type_53 (by decide), ?_⟩
  exact fun _ h => absurd h List.not_mem_nil
set_option maxRecDepth 100000 in
theorem w_X7_type : (∀ (K : Kt MT) (n : Nat) (L : xL) (st : List Value) (S : MT), nx cod_X7_type cut_X7_type K (n + 1) 0 L st S = (O_iload 1 1) (nx cod_X7_type cut_X7_type K n) 0 L st S) ∧
  (∀ (K : Kt MT) (n : Nat) (L : xL) (st : List Value) (S : MT), nx cod_X7_type cut_X7_type K (n + 1) 1 L st S = (O_i2l) (nx cod_X7_type cut_X7_type K n) 1 L st S) ∧
  (∀ (K : Kt MT) (n : Nat) (L : xL) (st : List Value) (S : MT), nx cod_X7_type cut_X7_type K (n + 1) 2 L st S = (O_long 32 3) (nx cod_X7_type cut_X7_type K n) 2 L st S) ∧
  (∀ (K : Kt MT) (n : Nat) (L : xL) (st : List Value) (S : MT), nx cod_X7_type cut_X7_type K (n + 1) 5 L st S = (O_long 126 3) (nx cod_X7_type cut_X7_type K n) 5 L st S) ∧
  (∀ (K : Kt MT) (n : Nat) (L : xL) (st : List Value) (S : MT), nx cod_X7_type cut_X7_type K (n + 1) 8 L st S = (O_callS 3 sp_X7_in) (nx cod_X7_type cut_X7_type K n) 8 L st S) ∧
  (∀ (K : Kt MT) (n : Nat) (L : xL) (st : List Value) (S : MT), nx cod_X7_type cut_X7_type K (n + 1) 11 L st S = (O_if_ne 17) (nx cod_X7_type cut_X7_type K n) 11 L st S) ∧
  (∀ (K : Kt MT) (n : Nat) (L : xL) (st : List Value) (S : MT), nx cod_X7_type cut_X7_type K (n + 1) 14 L st S = (O_int (-1000001) 2) (nx cod_X7_type cut_X7_type K n) 14 L st S) ∧
  (∀ (K : Kt MT) (n : Nat) (L : xL) (st : List Value) (S : MT), nx cod_X7_type cut_X7_type K (n + 1) 16 L st S = (O_iret) (nx cod_X7_type cut_X7_type K n) 16 L st S) ∧
  (∀ (K : Kt MT) (n : Nat) (L : xL) (st : List Value) (S : MT), nx cod_X7_type cut_X7_type K (n + 1) 17 L st S = (O_aload 0 1) (nx cod_X7_type cut_X7_type K n) 17 L st S) ∧
  (∀ (K : Kt MT) (n : Nat) (L : xL) (st : List Value) (S : MT), nx cod_X7_type cut_X7_type K (n + 1) 18 L st S = (O_getf mW 7 6) (nx cod_X7_type cut_X7_type K n) 18 L st S) ∧
  (∀ (K : Kt MT) (n : Nat) (L : xL) (st : List Value) (S : MT), nx cod_X7_type cut_X7_type K (n + 1) 21 L st S = (O_int 60 2) (nx cod_X7_type cut_X7_type K n) 21 L st S) ∧
  (∀ (K : Kt MT) (n : Nat) (L : xL) (st : List Value) (S : MT), nx cod_X7_type cut_X7_type K (n + 1) 23 L st S = (O_icmp_ne 29) (nx cod_X7_type cut_X7_type K n) 23 L st S) ∧
  (∀ (K : Kt MT) (n : Nat) (L : xL) (st : List Value) (S : MT), nx cod_X7_type cut_X7_type K (n + 1) 26 L st S = (O_int (-1000003) 2) (nx cod_X7_type cut_X7_type K n) 26 L st S) ∧
  (∀ (K : Kt MT) (n : Nat) (L : xL) (st : List Value) (S : MT), nx cod_X7_type cut_X7_type K (n + 1) 28 L st S = (O_iret) (nx cod_X7_type cut_X7_type K n) 28 L st S) ∧
  (∀ (K : Kt MT) (n : Nat) (L : xL) (st : List Value) (S : MT), nx cod_X7_type cut_X7_type K (n + 1) 29 L st S = (O_aload 0 1) (nx cod_X7_type cut_X7_type K n) 29 L st S) ∧
  (∀ (K : Kt MT) (n : Nat) (L : xL) (st : List Value) (S : MT), nx cod_X7_type cut_X7_type K (n + 1) 30 L st S = (O_getf mW 7 5) (nx cod_X7_type cut_X7_type K n) 30 L st S) ∧
  (∀ (K : Kt MT) (n : Nat) (L : xL) (st : List Value) (S : MT), nx cod_X7_type cut_X7_type K (n + 1) 33 L st S = (O_aload 0 1) (nx cod_X7_type cut_X7_type K n) 33 L st S) ∧
  (∀ (K : Kt MT) (n : Nat) (L : xL) (st : List Value) (S : MT), nx cod_X7_type cut_X7_type K (n + 1) 34 L st S = (O_getf mW 7 6) (nx cod_X7_type cut_X7_type K n) 34 L st S) ∧
  (∀ (K : Kt MT) (n : Nat) (L : xL) (st : List Value) (S : MT), nx cod_X7_type cut_X7_type K (n + 1) 37 L st S = (O_iload 1 1) (nx cod_X7_type cut_X7_type K n) 37 L st S) ∧
  (∀ (K : Kt MT) (n : Nat) (L : xL) (st : List Value) (S : MT), nx cod_X7_type cut_X7_type K (n + 1) 38 L st S = (O_ast mW 0 mW_sa) (nx cod_X7_type cut_X7_type K n) 38 L st S) ∧
  (∀ (K : Kt MT) (n : Nat) (L : xL) (st : List Value) (S : MT), nx cod_X7_type cut_X7_type K (n + 1) 39 L st S = (O_aload 0 1) (nx cod_X7_type cut_X7_type K n) 39 L st S) ∧
  (∀ (K : Kt MT) (n : Nat) (L : xL) (st : List Value) (S : MT), nx cod_X7_type cut_X7_type K (n + 1) 40 L st S = (O_dup) (nx cod_X7_type cut_X7_type K n) 40 L st S) ∧
  (∀ (K : Kt MT) (n : Nat) (L : xL) (st : List Value) (S : MT), nx cod_X7_type cut_X7_type K (n + 1) 41 L st S = (O_getf mW 7 6) (nx cod_X7_type cut_X7_type K n) 41 L st S) ∧
  (∀ (K : Kt MT) (n : Nat) (L : xL) (st : List Value) (S : MT), nx cod_X7_type cut_X7_type K (n + 1) 44 L st S = (O_int 1 1) (nx cod_X7_type cut_X7_type K n) 44 L st S) ∧
  (∀ (K : Kt MT) (n : Nat) (L : xL) (st : List Value) (S : MT), nx cod_X7_type cut_X7_type K (n + 1) 45 L st S = (O_iadd) (nx cod_X7_type cut_X7_type K n) 45 L st S) ∧
  (∀ (K : Kt MT) (n : Nat) (L : xL) (st : List Value) (S : MT), nx cod_X7_type cut_X7_type K (n + 1) 46 L st S = (O_puti mW_p7_6) (nx cod_X7_type cut_X7_type K n) 46 L st S) ∧
  (∀ (K : Kt MT) (n : Nat) (L : xL) (st : List Value) (S : MT), nx cod_X7_type cut_X7_type K (n + 1) 49 L st S = (O_aload 0 1) (nx cod_X7_type cut_X7_type K n) 49 L st S) ∧
  (∀ (K : Kt MT) (n : Nat) (L : xL) (st : List Value) (S : MT), nx cod_X7_type cut_X7_type K (n + 1) 50 L st S = (O_getf mW 7 6) (nx cod_X7_type cut_X7_type K n) 50 L st S) ∧
  (∀ (K : Kt MT) (n : Nat) (L : xL) (st : List Value) (S : MT), nx cod_X7_type cut_X7_type K (n + 1) 53 L st S = (O_iret) (nx cod_X7_type cut_X7_type K n) 53 L st S) ∧
  (∀ (K : Kt MT) (n : Nat) (L : xL) (st : List Value) (S : MT), nx cod_X7_type cut_X7_type K (n + 1) 100000 L st S = K 100000 L st S) := by
  repeat' apply And.intro
  all_goals (intros; rfl)
set_option maxRecDepth 100000 in
theorem mk_X7_type {P P' : MT} {r : Option Value} {p0 : Int32} (body : ∀ E : En, CodOk E mW cod_X7_type → Gd E mW 100000 [] r.toList P' → Gd E mW 0 [some (.ref 0), some (.int p0)] [] P) : Con yX7_type cX7_type 2 (some .int) 1 mW [.ref 0, .int p0] P r P' :=
  Con.of (by decide) rfl rfl (Nat.le_of_ble_eq_true rfl) (fun E F G hr => body E (okc_X7_type F G) hr)
set_option maxRecDepth 10000 in
theorem con_X7_type (S : MT) (c : Int32) (hp : isN S.textLong S.tn 60) : Con yX7_type cX7_type 2 (some .int) 1 mW [.ref 0, .int c] S (some (.int (if inR c 32 126 = false then -1000001 else if S.tn = 60 then -1000003 else nI (S.tn + 1)))) (if inR c 32 126 = false ∨ S.tn = 60 then S else (S.sText (upd S.text S.tn c)).sTextLong (nI (S.tn + 1))) := by
  refine mk_X7_type (fun E C hr => ?_)
  obtain ⟨h1, h2, h3⟩ := hp
  have hin : inL c.toInt64 32 126 = inR c 32 126 := by
    rw [show (32 : Int64) = (32 : Int32).toInt64 from rfl, show (126 : Int64) = (126 : Int32).toInt64 from rfl, inL_eq]
  by_cases d : S.tn = 60
  · have hs : S.textLong = 60 := by rw [h1, d]; rfl
    simp only [d, or_true, if_true] at hr
    (refine nx_ok C (cuts := cut_X7_type) 1000 _ _ _ _ ?_; simp only [w_X7_type, ops_eq, xst_eq, call_eq, oK_eq, Option.toList_some, Option.toList_none, List.cons_append, List.nil_append, List.length_cons, List.length_nil, true_and, and_true, Nat.reduceAdd, mW_F, mW_A, mW_S, mW_P, MT_gs, se_X7_in, bI_eq, hin, hs])
    ((repeat' (with_reducible first | apply And.intro | intro _)) <;> simp_all [MT_gs])
  · have hne : ¬ S.textLong = 60 := by
      rw [h1, show (60 : Int32) = nI 60 from rfl, nI_eq (by omega) (by omega)]
      exact d
    have hv : vp_in S.textLong 60 := by rw [h1]; exact vp_in_nI (by omega) (by omega)
    have e : S.textLong + 1 = nI (S.tn + 1) := by
      conv => lhs; rw [h1]
      exact nI_1 _
    have et : S.textLong.toNatClampNeg = S.tn := rfl
    simp only [d, or_false, if_false] at hr
    clear h1 h2 h3
    (refine nx_ok C (cuts := cut_X7_type) 1000 _ _ _ _ ?_; simp only [w_X7_type, ops_eq, xst_eq, call_eq, oK_eq, Option.toList_some, Option.toList_none, List.cons_append, List.nil_append, List.length_cons, List.length_nil, true_and, and_true, Nat.reduceAdd, mW_F, mW_A, mW_S, mW_P, MT_gs, se_X7_in, bI_eq, hin, hne, hv, e, et, xnar_0])
    ((repeat' (with_reducible first | apply And.intro | intro _)) <;> simp_all [MT_gs])
def sp_X7_type : Sp MT := fun av S K => match av with
  | [.ref 0, .int c] => (isN S.textLong S.tn 60) ∧ K (some (.int (if inR c 32 126 = false then -1000001 else if S.tn = 60 then -1000003 else nI (S.tn + 1)))) (if inR c 32 126 = false ∨ S.tn = 60 then S else (S.sText (upd S.text S.tn c)).sTextLong (nI (S.tn + 1)))
  | _ => False
theorem se_X7_type (c : Int32) (S : MT) (K : Option Value → MT → Prop) : sp_X7_type [.ref 0, .int c] S K = ((isN S.textLong S.tn 60) ∧ K (some (.int (if inR c 32 126 = false then -1000001 else if S.tn = 60 then -1000003 else nI (S.tn + 1)))) (if inR c 32 126 = false ∨ S.tn = 60 then S else (S.sText (upd S.text S.tn c)).sTextLong (nI (S.tn + 1)))) := rfl
theorem spok_X7_type : SpOk yX7_type cX7_type 2 (some .int) 1 mW sp_X7_type := by
  intro av S K h
  unfold sp_X7_type at h
  split at h
  · rename_i c; exact ⟨some (.int (if inR c 32 126 = false then -1000001 else if S.tn = 60 then -1000003 else nI (S.tn + 1))), if inR c 32 126 = false ∨ S.tn = 60 then S else (S.sText (upd S.text S.tn c)).sTextLong (nI (S.tn + 1)), trivial, con_X7_type S c h.1, h.2⟩
  · exact h.elim
def cod_X7_clearText : List (Nat × Op MT) := [(0, O_aload 0 1), (1, O_getf mW 7 6), (4, O_istore 1 1), (5, O_aload 0 1), (6, O_int 0 1), (7, O_puti mW_p7_6), (10, O_iload 1 1), (11, O_iret)]
abbrev cut_X7_clearText : List Nat := []
set_option maxRecDepth 100000 in
theorem okc_X7_clearText {E : En} (F : Fx E RX7 cX7_clearText 2 0) (G : Fr E (some .int)) : CodOk E mW cod_X7_clearText := by
  unfold CodOk cod_X7_clearText
  refine List.forall_mem_cons.mpr ⟨ok_aload_n F dX7_clearText_0 rfl (by decide), ?_⟩
  refine List.forall_mem_cons.mpr ⟨ok_getf F flX7_234 dX7_clearText_1 (by decide), ?_⟩
  refine List.forall_mem_cons.mpr ⟨ok_istore_n F dX7_clearText_4 rfl (by decide) (by decide), ?_⟩
  refine List.forall_mem_cons.mpr ⟨ok_aload_n F dX7_clearText_5 rfl (by decide), ?_⟩
  refine List.forall_mem_cons.mpr ⟨ok_iconst F dX7_clearText_6 (by decide) (by decide), ?_⟩
  refine List.forall_mem_cons.mpr ⟨ok_puti F mW_p7_6_ok (fun _ _ _ h => by cases h; rfl) rfl flX7_234 dX7_clearText_7 (by decide), ?_⟩
  refine List.forall_mem_cons.mpr ⟨ok_iload_n F dX7_clearText_10 rfl (by decide), ?_⟩
  refine List.forall_mem_cons.mpr ⟨ok_iret F G dX7_clearText_11 (by decide), ?_⟩
  exact fun _ h => absurd h List.not_mem_nil
set_option maxRecDepth 100000 in
theorem w_X7_clearText : (∀ (K : Kt MT) (n : Nat) (L : xL) (st : List Value) (S : MT), nx cod_X7_clearText cut_X7_clearText K (n + 1) 0 L st S = (O_aload 0 1) (nx cod_X7_clearText cut_X7_clearText K n) 0 L st S) ∧
  (∀ (K : Kt MT) (n : Nat) (L : xL) (st : List Value) (S : MT), nx cod_X7_clearText cut_X7_clearText K (n + 1) 1 L st S = (O_getf mW 7 6) (nx cod_X7_clearText cut_X7_clearText K n) 1 L st S) ∧
  (∀ (K : Kt MT) (n : Nat) (L : xL) (st : List Value) (S : MT), nx cod_X7_clearText cut_X7_clearText K (n + 1) 4 L st S = (O_istore 1 1) (nx cod_X7_clearText cut_X7_clearText K n) 4 L st S) ∧
  (∀ (K : Kt MT) (n : Nat) (L : xL) (st : List Value) (S : MT), nx cod_X7_clearText cut_X7_clearText K (n + 1) 5 L st S = (O_aload 0 1) (nx cod_X7_clearText cut_X7_clearText K n) 5 L st S) ∧
  (∀ (K : Kt MT) (n : Nat) (L : xL) (st : List Value) (S : MT), nx cod_X7_clearText cut_X7_clearText K (n + 1) 6 L st S = (O_int 0 1) (nx cod_X7_clearText cut_X7_clearText K n) 6 L st S) ∧
  (∀ (K : Kt MT) (n : Nat) (L : xL) (st : List Value) (S : MT), nx cod_X7_clearText cut_X7_clearText K (n + 1) 7 L st S = (O_puti mW_p7_6) (nx cod_X7_clearText cut_X7_clearText K n) 7 L st S) ∧
  (∀ (K : Kt MT) (n : Nat) (L : xL) (st : List Value) (S : MT), nx cod_X7_clearText cut_X7_clearText K (n + 1) 10 L st S = (O_iload 1 1) (nx cod_X7_clearText cut_X7_clearText K n) 10 L st S) ∧
  (∀ (K : Kt MT) (n : Nat) (L : xL) (st : List Value) (S : MT), nx cod_X7_clearText cut_X7_clearText K (n + 1) 11 L st S = (O_iret) (nx cod_X7_clearText cut_X7_clearText K n) 11 L st S) ∧
  (∀ (K : Kt MT) (n : Nat) (L : xL) (st : List Value) (S : MT), nx cod_X7_clearText cut_X7_clearText K (n + 1) 100000 L st S = K 100000 L st S) := by
  repeat' apply And.intro
  all_goals (intros; rfl)
set_option maxRecDepth 100000 in
theorem mk_X7_clearText {P P' : MT} {r : Option Value}  (body : ∀ E : En, CodOk E mW cod_X7_clearText → Gd E mW 100000 [] r.toList P' → Gd E mW 0 [some (.ref 0), none] [] P) : Con yX7_clearText cX7_clearText 2 (some .int) 0 mW [.ref 0] P r P' :=
  Con.of (by decide) rfl rfl (Nat.le_of_ble_eq_true rfl) (fun E F G hr => body E (okc_X7_clearText F G) hr)
set_option maxRecDepth 10000 in
theorem con_X7_clearText (S : MT)  : Con yX7_clearText cX7_clearText 2 (some .int) 0 mW [.ref 0] S (some (.int (S.textLong))) (S.sTextLong 0) := by
  refine mk_X7_clearText (fun E C hr => ?_)
  (refine nx_ok C (cuts := cut_X7_clearText) 1000 _ _ _ _ ?_; simp only [w_X7_clearText, ops_eq, xst_eq, call_eq, oK_eq, Option.toList_some, Option.toList_none, List.cons_append, List.nil_append, List.length_cons, List.length_nil, true_and, and_true, Nat.reduceAdd, mW_F, mW_A, mW_S, mW_P, MT_gs])
  ((repeat' (with_reducible first | apply And.intro | intro _)) <;> simp_all [MT_gs])
def sp_X7_clearText : Sp MT := fun av S K => match av with
  | [.ref 0] => K (some (.int (S.textLong))) (S.sTextLong 0)
  | _ => False
theorem se_X7_clearText  (S : MT) (K : Option Value → MT → Prop) : sp_X7_clearText [.ref 0] S K = (K (some (.int (S.textLong))) (S.sTextLong 0)) := rfl
theorem spok_X7_clearText : SpOk yX7_clearText cX7_clearText 2 (some .int) 0 mW sp_X7_clearText := by
  intro av S K h
  unfold sp_X7_clearText at h
  split at h
  · exact ⟨some (.int (S.textLong)), S.sTextLong 0, trivial, con_X7_clearText S , h⟩
  · exact h.elim
