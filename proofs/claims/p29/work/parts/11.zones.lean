/-! ===== Zones ===== -/
def ZT.n (S : ZT) : Nat := S.size.toNatClampNeg
def ZT.m (S : ZT) : Nat := S.programmes.toNatClampNeg
def ZT.ok (S : ZT) : Prop := isN S.size S.n 8 ∧ isN S.programmes S.m 8
def ZT.has (S : ZT) (z : Int32) : Bool := decide (¬ z < 0 ∧ z < S.size)
theorem ZT.has_in {S : ZT} {p : Int32} (hs : S.ok) (h : S.has p = true) : vp_in p 8 := by
  simp only [ZT.has, decide_eq_true_eq] at h
  exact isN_vp hs.1 h.1 h.2
theorem isN_add {s : Int32} {n N : Nat} (h : isN s n N) (h4 : s < nI N) : vp_in s N := by
  obtain ⟨h1, h2, h3⟩ := h
  rw [h1, nI_ltI (by omega) (by omega)] at h4
  rw [h1]
  exact vp_in_nI h4 (by omega)
def ZT.add (S : ZT) (d : Int32) : ZT := (S.sDemands (upd S.demands S.n d)).sSize (S.size + 1)
theorem flX5_11 : fldOk RX5 11 5 0 = true := by decide +kernel
theorem flX5_34 : fldOk RX5 34 5 2 = true := by decide +kernel
def cod_X5_add : List (Nat × Op ZT) := [(0, O_aload 0 1), (1, O_getf zW 5 2), (4, O_int 8 2), (6, O_icmp_lt 11), (9, O_int (-1) 1), (10, O_iret), (11, O_aload 0 1), (12, O_getf zW 5 0), (15, O_aload 0 1), (16, O_getf zW 5 2), (19, O_iload 1 1), (20, O_ast zW 0 zW_sa), (21, O_aload 0 1), (22, O_dup), (23, O_getf zW 5 2), (26, O_int 1 1), (27, O_iadd), (28, O_puti zW_p5_2), (31, O_aload 0 1), (32, O_getf zW 5 2), (35, O_int 1 1), (36, O_isub), (37, O_iret)]
abbrev cut_X5_add : List Nat := []
set_option maxRecDepth 100000 in
theorem okc_X5_add {E : En} (F : Fx E RX5 cX5_add 2 0) (G : Fr E (some .int)) : CodOk E zW cod_X5_add := by
  unfold CodOk cod_X5_add
  refine List.forall_mem_cons.mpr ⟨ok_aload_n F dX5_add_0 rfl (by decide), ?_⟩
  refine List.forall_mem_cons.mpr ⟨ok_getf F flX5_34 dX5_add_1 (by decide), ?_⟩
  refine List.forall_mem_cons.mpr ⟨ok_bipush F dX5_add_4 (by decide) (by decide), ?_⟩
  refine List.forall_mem_cons.mpr ⟨ok_icmp_lt F dX5_add_6 (by decide) (by decide) (by decide), ?_⟩
  refine List.forall_mem_cons.mpr ⟨ok_iconst F dX5_add_9 (by decide) (by decide), ?_⟩
  refine List.forall_mem_cons.mpr ⟨ok_iret F G dX5_add_10 (by decide), ?_⟩
  refine List.forall_mem_cons.mpr ⟨ok_aload_n F dX5_add_11 rfl (by decide), ?_⟩
  refine List.forall_mem_cons.mpr ⟨ok_getf F flX5_11 dX5_add_12 (by decide), ?_⟩
  refine List.forall_mem_cons.mpr ⟨ok_aload_n F dX5_add_15 rfl (by decide), ?_⟩
  refine List.forall_mem_cons.mpr ⟨ok_getf F flX5_34 dX5_add_16 (by decide), ?_⟩
  refine List.forall_mem_cons.mpr ⟨ok_iload_n F dX5_add_19 rfl (by decide), ?_⟩
  refine List.forall_mem_cons.mpr ⟨ok_iast F zW_sar dX5_add_20 (by decide), ?_⟩
  refine List.forall_mem_cons.mpr ⟨ok_aload_n F dX5_add_21 rfl (by decide), ?_⟩
  refine List.forall_mem_cons.mpr ⟨ok_dup F dX5_add_22 (by decide), ?_⟩
  refine List.forall_mem_cons.mpr ⟨ok_getf F flX5_34 dX5_add_23 (by decide), ?_⟩
  refine List.forall_mem_cons.mpr ⟨ok_iconst F dX5_add_26 (by decide) (by decide), ?_⟩
  refine List.forall_mem_cons.mpr ⟨ok_iadd F dX5_add_27 (by decide), ?_⟩
  refine List.forall_mem_cons.mpr ⟨ok_puti F zW_p5_2_ok (fun _ _ _ h => by cases h; rfl) rfl flX5_34 dX5_add_28 (by decide), ?_⟩
  refine List.forall_mem_cons.mpr ⟨ok_aload_n F dX5_add_31 rfl (by decide), ?_⟩
  refine List.forall_mem_cons.mpr ⟨ok_getf F flX5_34 dX5_add_32 (by decide), ?_⟩
  refine List.forall_mem_cons.mpr ⟨ok_iconst F dX5_add_35 (by decide) (by decide), ?_⟩
  refine List.forall_mem_cons.mpr ⟨ok_isub F dX5_add_36 (by decide), ?_⟩
  refine List.forall_mem_cons.mpr ⟨ok_iret F G dX5_add_37 (by decide), ?_⟩
  exact fun _ h => absurd h List.not_mem_nil
set_option maxRecDepth 100000 in
theorem w_X5_add : (∀ (K : Kt ZT) (n : Nat) (L : xL) (st : List Value) (S : ZT), nx cod_X5_add cut_X5_add K (n + 1) 0 L st S = (O_aload 0 1) (nx cod_X5_add cut_X5_add K n) 0 L st S) ∧
  (∀ (K : Kt ZT) (n : Nat) (L : xL) (st : List Value) (S : ZT), nx cod_X5_add cut_X5_add K (n + 1) 1 L st S = (O_getf zW 5 2) (nx cod_X5_add cut_X5_add K n) 1 L st S) ∧
  (∀ (K : Kt ZT) (n : Nat) (L : xL) (st : List Value) (S : ZT), nx cod_X5_add cut_X5_add K (n + 1) 4 L st S = (O_int 8 2) (nx cod_X5_add cut_X5_add K n) 4 L st S) ∧
  (∀ (K : Kt ZT) (n : Nat) (L : xL) (st : List Value) (S : ZT), nx cod_X5_add cut_X5_add K (n + 1) 6 L st S = (O_icmp_lt 11) (nx cod_X5_add cut_X5_add K n) 6 L st S) ∧
  (∀ (K : Kt ZT) (n : Nat) (L : xL) (st : List Value) (S : ZT), nx cod_X5_add cut_X5_add K (n + 1) 9 L st S = (O_int (-1) 1) (nx cod_X5_add cut_X5_add K n) 9 L st S) ∧
  (∀ (K : Kt ZT) (n : Nat) (L : xL) (st : List Value) (S : ZT), nx cod_X5_add cut_X5_add K (n + 1) 10 L st S = (O_iret) (nx cod_X5_add cut_X5_add K n) 10 L st S) ∧
  (∀ (K : Kt ZT) (n : Nat) (L : xL) (st : List Value) (S : ZT), nx cod_X5_add cut_X5_add K (n + 1) 11 L st S = (O_aload 0 1) (nx cod_X5_add cut_X5_add K n) 11 L st S) ∧
  (∀ (K : Kt ZT) (n : Nat) (L : xL) (st : List Value) (S : ZT), nx cod_X5_add cut_X5_add K (n + 1) 12 L st S = (O_getf zW 5 0) (nx cod_X5_add cut_X5_add K n) 12 L st S) ∧
  (∀ (K : Kt ZT) (n : Nat) (L : xL) (st : List Value) (S : ZT), nx cod_X5_add cut_X5_add K (n + 1) 15 L st S = (O_aload 0 1) (nx cod_X5_add cut_X5_add K n) 15 L st S) ∧
  (∀ (K : Kt ZT) (n : Nat) (L : xL) (st : List Value) (S : ZT), nx cod_X5_add cut_X5_add K (n + 1) 16 L st S = (O_getf zW 5 2) (nx cod_X5_add cut_X5_add K n) 16 L st S) ∧
  (∀ (K : Kt ZT) (n : Nat) (L : xL) (st : List Value) (S : ZT), nx cod_X5_add cut_X5_add K (n + 1) 19 L st S = (O_iload 1 1) (nx cod_X5_add cut_X5_add K n) 19 L st S) ∧
  (∀ (K : Kt ZT) (n : Nat) (L : xL) (st : List Value) (S : ZT), nx cod_X5_add cut_X5_add K (n + 1) 20 L st S = (O_ast zW 0 zW_sa) (nx cod_X5_add cut_X5_add K n) 20 L st S) ∧
  (∀ (K : Kt ZT) (n : Nat) (L : xL) (st : List Value) (S : ZT), nx cod_X5_add cut_X5_add K (n + 1) 21 L st S = (O_aload 0 1) (nx cod_X5_add cut_X5_add K n) 21 L st S) ∧
  (∀ (K : Kt ZT) (n : Nat) (L : xL) (st : List Value) (S : ZT), nx cod_X5_add cut_X5_add K (n + 1) 22 L st S = (O_dup) (nx cod_X5_add cut_X5_add K n) 22 L st S) ∧
  (∀ (K : Kt ZT) (n : Nat) (L : xL) (st : List Value) (S : ZT), nx cod_X5_add cut_X5_add K (n + 1) 23 L st S = (O_getf zW 5 2) (nx cod_X5_add cut_X5_add K n) 23 L st S) ∧
  (∀ (K : Kt ZT) (n : Nat) (L : xL) (st : List Value) (S : ZT), nx cod_X5_add cut_X5_add K (n + 1) 26 L st S = (O_int 1 1) (nx cod_X5_add cut_X5_add K n) 26 L st S) ∧
  (∀ (K : Kt ZT) (n : Nat) (L : xL) (st : List Value) (S : ZT), nx cod_X5_add cut_X5_add K (n + 1) 27 L st S = (O_iadd) (nx cod_X5_add cut_X5_add K n) 27 L st S) ∧
  (∀ (K : Kt ZT) (n : Nat) (L : xL) (st : List Value) (S : ZT), nx cod_X5_add cut_X5_add K (n + 1) 28 L st S = (O_puti zW_p5_2) (nx cod_X5_add cut_X5_add K n) 28 L st S) ∧
  (∀ (K : Kt ZT) (n : Nat) (L : xL) (st : List Value) (S : ZT), nx cod_X5_add cut_X5_add K (n + 1) 31 L st S = (O_aload 0 1) (nx cod_X5_add cut_X5_add K n) 31 L st S) ∧
  (∀ (K : Kt ZT) (n : Nat) (L : xL) (st : List Value) (S : ZT), nx cod_X5_add cut_X5_add K (n + 1) 32 L st S = (O_getf zW 5 2) (nx cod_X5_add cut_X5_add K n) 32 L st S) ∧
  (∀ (K : Kt ZT) (n : Nat) (L : xL) (st : List Value) (S : ZT), nx cod_X5_add cut_X5_add K (n + 1) 35 L st S = (O_int 1 1) (nx cod_X5_add cut_X5_add K n) 35 L st S) ∧
  (∀ (K : Kt ZT) (n : Nat) (L : xL) (st : List Value) (S : ZT), nx cod_X5_add cut_X5_add K (n + 1) 36 L st S = (O_isub) (nx cod_X5_add cut_X5_add K n) 36 L st S) ∧
  (∀ (K : Kt ZT) (n : Nat) (L : xL) (st : List Value) (S : ZT), nx cod_X5_add cut_X5_add K (n + 1) 37 L st S = (O_iret) (nx cod_X5_add cut_X5_add K n) 37 L st S) ∧
  (∀ (K : Kt ZT) (n : Nat) (L : xL) (st : List Value) (S : ZT), nx cod_X5_add cut_X5_add K (n + 1) 100000 L st S = K 100000 L st S) := by
  repeat' apply And.intro
  all_goals (intros; rfl)
set_option maxRecDepth 100000 in
theorem mk_X5_add {P P' : ZT} {r : Option Value} {p0 : Int32} (body : ∀ E : En, CodOk E zW cod_X5_add → Gd E zW 100000 [] r.toList P' → Gd E zW 0 [some (.ref 0), some (.int p0)] [] P) : Con yX5_add cX5_add 2 (some .int) 0 zW [.ref 0, .int p0] P r P' :=
  Con.of (by decide) rfl rfl (Nat.le_of_ble_eq_true rfl) (fun E F G hr => body E (okc_X5_add F G) hr)
theorem con_X5_add (S : ZT) (d : Int32) (hp : S.ok ∧ S.size < 8) : Con yX5_add cX5_add 2 (some .int) 0 zW [.ref 0, .int d] S (some (.int (S.size))) (S.add d) := by
  refine mk_X5_add (fun E C hr => ?_)
  have hn : vp_in S.size 8 := isN_add hp.1.1 hp.2
  have hs := hp.2
  (refine nx_ok C (cuts := cut_X5_add) 1000 _ _ _ _ ?_; simp only [w_X5_add, ops_eq, xst_eq, call_eq, oK_eq, Option.toList_some, Option.toList_none, List.cons_append, List.nil_append, List.length_cons, List.length_nil, true_and, and_true, Nat.reduceAdd, zW_F, zW_A, zW_S, zW_P, ZT_gs])
  ((repeat' (with_reducible first | apply And.intro | intro _)) <;> simp_all [ZT.add, ZT.n, Int32.add_sub_cancel, ZT_gs])
def sp_X5_add : Sp ZT := fun av S K => match av with
  | [.ref 0, .int d] => (S.ok ∧ S.size < 8) ∧ K (some (.int (S.size))) (S.add d)
  | _ => False
theorem se_X5_add (d : Int32) (S : ZT) (K : Option Value → ZT → Prop) : sp_X5_add [.ref 0, .int d] S K = ((S.ok ∧ S.size < 8) ∧ K (some (.int (S.size))) (S.add d)) := rfl
theorem spok_X5_add : SpOk yX5_add cX5_add 2 (some .int) 0 zW sp_X5_add := by
  intro av S K h
  unfold sp_X5_add at h
  split at h
  · rename_i d; exact ⟨some (.int (S.size)), S.add d, trivial, con_X5_add S d h.1, h.2⟩
  · exact h.elim
def ZT.addP (S : ZT) (z f t : Int32) : ZT := (((S.sPzones (upd S.pzones S.m z)).sOpening (upd S.opening S.m f)).sClosing (upd S.closing S.m t)).sProgrammes (S.programmes + 1)
theorem flX5_19 : fldOk RX5 19 5 3 = true := by decide +kernel
theorem flX5_22 : fldOk RX5 22 5 4 = true := by decide +kernel
theorem flX5_25 : fldOk RX5 25 5 5 = true := by decide +kernel
theorem flX5_38 : fldOk RX5 38 5 6 = true := by decide +kernel
def cod_X5_addProgramme : List (Nat × Op ZT) := [(0, O_aload 0 1), (1, O_getf zW 5 6), (4, O_int 8 2), (6, O_icmp_ge 49), (9, O_aload 0 1), (10, O_getf zW 5 3), (13, O_aload 0 1), (14, O_getf zW 5 6), (17, O_iload 1 1), (18, O_ast zW 0 zW_sa), (19, O_aload 0 1), (20, O_getf zW 5 4), (23, O_aload 0 1), (24, O_getf zW 5 6), (27, O_iload 2 1), (28, O_ast zW 0 zW_sa), (29, O_aload 0 1), (30, O_getf zW 5 5), (33, O_aload 0 1), (34, O_getf zW 5 6), (37, O_iload 3 1), (38, O_ast zW 0 zW_sa), (39, O_aload 0 1), (40, O_dup), (41, O_getf zW 5 6), (44, O_int 1 1), (45, O_iadd), (46, O_puti zW_p5_6), (49, O_aload 0 1), (50, O_getf zW 5 6), (53, O_iret)]
abbrev cut_X5_addProgramme : List Nat := []
set_option maxRecDepth 100000 in
theorem okc_X5_addProgramme {E : En} (F : Fx E RX5 cX5_addProgramme 4 0) (G : Fr E (some .int)) : CodOk E zW cod_X5_addProgramme := by
  unfold CodOk cod_X5_addProgramme
  refine List.forall_mem_cons.mpr ⟨ok_aload_n F dX5_addProgramme_0 rfl (by decide), ?_⟩
  refine List.forall_mem_cons.mpr ⟨ok_getf F flX5_38 dX5_addProgramme_1 (by decide), ?_⟩
  refine List.forall_mem_cons.mpr ⟨ok_bipush F dX5_addProgramme_4 (by decide) (by decide), ?_⟩
  refine List.forall_mem_cons.mpr ⟨ok_icmp_ge F dX5_addProgramme_6 (by decide) (by decide) (by decide), ?_⟩
  refine List.forall_mem_cons.mpr ⟨ok_aload_n F dX5_addProgramme_9 rfl (by decide), ?_⟩
  refine List.forall_mem_cons.mpr ⟨ok_getf F flX5_19 dX5_addProgramme_10 (by decide), ?_⟩
  refine List.forall_mem_cons.mpr ⟨ok_aload_n F dX5_addProgramme_13 rfl (by decide), ?_⟩
  refine List.forall_mem_cons.mpr ⟨ok_getf F flX5_38 dX5_addProgramme_14 (by decide), ?_⟩
  refine List.forall_mem_cons.mpr ⟨ok_iload_n F dX5_addProgramme_17 rfl (by decide), ?_⟩
  refine List.forall_mem_cons.mpr ⟨ok_iast F zW_sar dX5_addProgramme_18 (by decide), ?_⟩
  refine List.forall_mem_cons.mpr ⟨ok_aload_n F dX5_addProgramme_19 rfl (by decide), ?_⟩
  refine List.forall_mem_cons.mpr ⟨ok_getf F flX5_22 dX5_addProgramme_20 (by decide), ?_⟩
  refine List.forall_mem_cons.mpr ⟨ok_aload_n F dX5_addProgramme_23 rfl (by decide), ?_⟩
  refine List.forall_mem_cons.mpr ⟨ok_getf F flX5_38 dX5_addProgramme_24 (by decide), ?_⟩
  refine List.forall_mem_cons.mpr ⟨ok_iload_n F dX5_addProgramme_27 rfl (by decide), ?_⟩
  refine List.forall_mem_cons.mpr ⟨ok_iast F zW_sar dX5_addProgramme_28 (by decide), ?_⟩
  refine List.forall_mem_cons.mpr ⟨ok_aload_n F dX5_addProgramme_29 rfl (by decide), ?_⟩
  refine List.forall_mem_cons.mpr ⟨ok_getf F flX5_25 dX5_addProgramme_30 (by decide), ?_⟩
  refine List.forall_mem_cons.mpr ⟨ok_aload_n F dX5_addProgramme_33 rfl (by decide), ?_⟩
  refine List.forall_mem_cons.mpr ⟨ok_getf F flX5_38 dX5_addProgramme_34 (by decide), ?_⟩
  refine List.forall_mem_cons.mpr ⟨ok_iload_n F dX5_addProgramme_37 rfl (by decide), ?_⟩
  refine List.forall_mem_cons.mpr ⟨ok_iast F zW_sar dX5_addProgramme_38 (by decide), ?_⟩
  refine List.forall_mem_cons.mpr ⟨ok_aload_n F dX5_addProgramme_39 rfl (by decide), ?_⟩
  refine List.forall_mem_cons.mpr ⟨ok_dup F dX5_addProgramme_40 (by decide), ?_⟩
  refine List.forall_mem_cons.mpr ⟨ok_getf F flX5_38 dX5_addProgramme_41 (by decide), ?_⟩
  refine List.forall_mem_cons.mpr ⟨ok_iconst F dX5_addProgramme_44 (by decide) (by decide), ?_⟩
  refine List.forall_mem_cons.mpr ⟨ok_iadd F dX5_addProgramme_45 (by decide), ?_⟩
  refine List.forall_mem_cons.mpr ⟨ok_puti F zW_p5_6_ok (fun _ _ _ h => by cases h; rfl) rfl flX5_38 dX5_addProgramme_46 (by decide), ?_⟩
  refine List.forall_mem_cons.mpr ⟨ok_aload_n F dX5_addProgramme_49 rfl (by decide), ?_⟩
  refine List.forall_mem_cons.mpr ⟨ok_getf F flX5_38 dX5_addProgramme_50 (by decide), ?_⟩
  refine List.forall_mem_cons.mpr ⟨ok_iret F G dX5_addProgramme_53 (by decide), ?_⟩
  exact fun _ h => absurd h List.not_mem_nil
set_option maxRecDepth 100000 in
theorem w_X5_addProgramme : (∀ (K : Kt ZT) (n : Nat) (L : xL) (st : List Value) (S : ZT), nx cod_X5_addProgramme cut_X5_addProgramme K (n + 1) 0 L st S = (O_aload 0 1) (nx cod_X5_addProgramme cut_X5_addProgramme K n) 0 L st S) ∧
  (∀ (K : Kt ZT) (n : Nat) (L : xL) (st : List Value) (S : ZT), nx cod_X5_addProgramme cut_X5_addProgramme K (n + 1) 1 L st S = (O_getf zW 5 6) (nx cod_X5_addProgramme cut_X5_addProgramme K n) 1 L st S) ∧
  (∀ (K : Kt ZT) (n : Nat) (L : xL) (st : List Value) (S : ZT), nx cod_X5_addProgramme cut_X5_addProgramme K (n + 1) 4 L st S = (O_int 8 2) (nx cod_X5_addProgramme cut_X5_addProgramme K n) 4 L st S) ∧
  (∀ (K : Kt ZT) (n : Nat) (L : xL) (st : List Value) (S : ZT), nx cod_X5_addProgramme cut_X5_addProgramme K (n + 1) 6 L st S = (O_icmp_ge 49) (nx cod_X5_addProgramme cut_X5_addProgramme K n) 6 L st S) ∧
  (∀ (K : Kt ZT) (n : Nat) (L : xL) (st : List Value) (S : ZT), nx cod_X5_addProgramme cut_X5_addProgramme K (n + 1) 9 L st S = (O_aload 0 1) (nx cod_X5_addProgramme cut_X5_addProgramme K n) 9 L st S) ∧
  (∀ (K : Kt ZT) (n : Nat) (L : xL) (st : List Value) (S : ZT), nx cod_X5_addProgramme cut_X5_addProgramme K (n + 1) 10 L st S = (O_getf zW 5 3) (nx cod_X5_addProgramme cut_X5_addProgramme K n) 10 L st S) ∧
  (∀ (K : Kt ZT) (n : Nat) (L : xL) (st : List Value) (S : ZT), nx cod_X5_addProgramme cut_X5_addProgramme K (n + 1) 13 L st S = (O_aload 0 1) (nx cod_X5_addProgramme cut_X5_addProgramme K n) 13 L st S) ∧
  (∀ (K : Kt ZT) (n : Nat) (L : xL) (st : List Value) (S : ZT), nx cod_X5_addProgramme cut_X5_addProgramme K (n + 1) 14 L st S = (O_getf zW 5 6) (nx cod_X5_addProgramme cut_X5_addProgramme K n) 14 L st S) ∧
  (∀ (K : Kt ZT) (n : Nat) (L : xL) (st : List Value) (S : ZT), nx cod_X5_addProgramme cut_X5_addProgramme K (n + 1) 17 L st S = (O_iload 1 1) (nx cod_X5_addProgramme cut_X5_addProgramme K n) 17 L st S) ∧
  (∀ (K : Kt ZT) (n : Nat) (L : xL) (st : List Value) (S : ZT), nx cod_X5_addProgramme cut_X5_addProgramme K (n + 1) 18 L st S = (O_ast zW 0 zW_sa) (nx cod_X5_addProgramme cut_X5_addProgramme K n) 18 L st S) ∧
  (∀ (K : Kt ZT) (n : Nat) (L : xL) (st : List Value) (S : ZT), nx cod_X5_addProgramme cut_X5_addProgramme K (n + 1) 19 L st S = (O_aload 0 1) (nx cod_X5_addProgramme cut_X5_addProgramme K n) 19 L st S) ∧
  (∀ (K : Kt ZT) (n : Nat) (L : xL) (st : List Value) (S : ZT), nx cod_X5_addProgramme cut_X5_addProgramme K (n + 1) 20 L st S = (O_getf zW 5 4) (nx cod_X5_addProgramme cut_X5_addProgramme K n) 20 L st S) ∧
  (∀ (K : Kt ZT) (n : Nat) (L : xL) (st : List Value) (S : ZT), nx cod_X5_addProgramme cut_X5_addProgramme K (n + 1) 23 L st S = (O_aload 0 1) (nx cod_X5_addProgramme cut_X5_addProgramme K n) 23 L st S) ∧
  (∀ (K : Kt ZT) (n : Nat) (L : xL) (st : List Value) (S : ZT), nx cod_X5_addProgramme cut_X5_addProgramme K (n + 1) 24 L st S = (O_getf zW 5 6) (nx cod_X5_addProgramme cut_X5_addProgramme K n) 24 L st S) ∧
  (∀ (K : Kt ZT) (n : Nat) (L : xL) (st : List Value) (S : ZT), nx cod_X5_addProgramme cut_X5_addProgramme K (n + 1) 27 L st S = (O_iload 2 1) (nx cod_X5_addProgramme cut_X5_addProgramme K n) 27 L st S) ∧
  (∀ (K : Kt ZT) (n : Nat) (L : xL) (st : List Value) (S : ZT), nx cod_X5_addProgramme cut_X5_addProgramme K (n + 1) 28 L st S = (O_ast zW 0 zW_sa) (nx cod_X5_addProgramme cut_X5_addProgramme K n) 28 L st S) ∧
  (∀ (K : Kt ZT) (n : Nat) (L : xL) (st : List Value) (S : ZT), nx cod_X5_addProgramme cut_X5_addProgramme K (n + 1) 29 L st S = (O_aload 0 1) (nx cod_X5_addProgramme cut_X5_addProgramme K n) 29 L st S) ∧
  (∀ (K : Kt ZT) (n : Nat) (L : xL) (st : List Value) (S : ZT), nx cod_X5_addProgramme cut_X5_addProgramme K (n + 1) 30 L st S = (O_getf zW 5 5) (nx cod_X5_addProgramme cut_X5_addProgramme K n) 30 L st S) ∧
  (∀ (K : Kt ZT) (n : Nat) (L : xL) (st : List Value) (S : ZT), nx cod_X5_addProgramme cut_X5_addProgramme K (n + 1) 33 L st S = (O_aload 0 1) (nx cod_X5_addProgramme cut_X5_addProgramme K n) 33 L st S) ∧
  (∀ (K : Kt ZT) (n : Nat) (L : xL) (st : List Value) (S : ZT), nx cod_X5_addProgramme cut_X5_addProgramme K (n + 1) 34 L st S = (O_getf zW 5 6) (nx cod_X5_addProgramme cut_X5_addProgramme K n) 34 L st S) ∧
  (∀ (K : Kt ZT) (n : Nat) (L : xL) (st : List Value) (S : ZT), nx cod_X5_addProgramme cut_X5_addProgramme K (n + 1) 37 L st S = (O_iload 3 1) (nx cod_X5_addProgramme cut_X5_addProgramme K n) 37 L st S) ∧
  (∀ (K : Kt ZT) (n : Nat) (L : xL) (st : List Value) (S : ZT), nx cod_X5_addProgramme cut_X5_addProgramme K (n + 1) 38 L st S = (O_ast zW 0 zW_sa) (nx cod_X5_addProgramme cut_X5_addProgramme K n) 38 L st S) ∧
  (∀ (K : Kt ZT) (n : Nat) (L : xL) (st : List Value) (S : ZT), nx cod_X5_addProgramme cut_X5_addProgramme K (n + 1) 39 L st S = (O_aload 0 1) (nx cod_X5_addProgramme cut_X5_addProgramme K n) 39 L st S) ∧
  (∀ (K : Kt ZT) (n : Nat) (L : xL) (st : List Value) (S : ZT), nx cod_X5_addProgramme cut_X5_addProgramme K (n + 1) 40 L st S = (O_dup) (nx cod_X5_addProgramme cut_X5_addProgramme K n) 40 L st S) ∧
  (∀ (K : Kt ZT) (n : Nat) (L : xL) (st : List Value) (S : ZT), nx cod_X5_addProgramme cut_X5_addProgramme K (n + 1) 41 L st S = (O_getf zW 5 6) (nx cod_X5_addProgramme cut_X5_addProgramme K n) 41 L st S) ∧
  (∀ (K : Kt ZT) (n : Nat) (L : xL) (st : List Value) (S : ZT), nx cod_X5_addProgramme cut_X5_addProgramme K (n + 1) 44 L st S = (O_int 1 1) (nx cod_X5_addProgramme cut_X5_addProgramme K n) 44 L st S) ∧
  (∀ (K : Kt ZT) (n : Nat) (L : xL) (st : List Value) (S : ZT), nx cod_X5_addProgramme cut_X5_addProgramme K (n + 1) 45 L st S = (O_iadd) (nx cod_X5_addProgramme cut_X5_addProgramme K n) 45 L st S) ∧
  (∀ (K : Kt ZT) (n : Nat) (L : xL) (st : List Value) (S : ZT), nx cod_X5_addProgramme cut_X5_addProgramme K (n + 1) 46 L st S = (O_puti zW_p5_6) (nx cod_X5_addProgramme cut_X5_addProgramme K n) 46 L st S) ∧
  (∀ (K : Kt ZT) (n : Nat) (L : xL) (st : List Value) (S : ZT), nx cod_X5_addProgramme cut_X5_addProgramme K (n + 1) 49 L st S = (O_aload 0 1) (nx cod_X5_addProgramme cut_X5_addProgramme K n) 49 L st S) ∧
  (∀ (K : Kt ZT) (n : Nat) (L : xL) (st : List Value) (S : ZT), nx cod_X5_addProgramme cut_X5_addProgramme K (n + 1) 50 L st S = (O_getf zW 5 6) (nx cod_X5_addProgramme cut_X5_addProgramme K n) 50 L st S) ∧
  (∀ (K : Kt ZT) (n : Nat) (L : xL) (st : List Value) (S : ZT), nx cod_X5_addProgramme cut_X5_addProgramme K (n + 1) 53 L st S = (O_iret) (nx cod_X5_addProgramme cut_X5_addProgramme K n) 53 L st S) ∧
  (∀ (K : Kt ZT) (n : Nat) (L : xL) (st : List Value) (S : ZT), nx cod_X5_addProgramme cut_X5_addProgramme K (n + 1) 100000 L st S = K 100000 L st S) := by
  repeat' apply And.intro
  all_goals (intros; rfl)
set_option maxRecDepth 100000 in
theorem mk_X5_addProgramme {P P' : ZT} {r : Option Value} {p0 : Int32} {p1 : Int32} {p2 : Int32} (body : ∀ E : En, CodOk E zW cod_X5_addProgramme → Gd E zW 100000 [] r.toList P' → Gd E zW 0 [some (.ref 0), some (.int p0), some (.int p1), some (.int p2)] [] P) : Con yX5_addProgramme cX5_addProgramme 4 (some .int) 0 zW [.ref 0, .int p0, .int p1, .int p2] P r P' :=
  Con.of (by decide) rfl rfl (Nat.le_of_ble_eq_true rfl) (fun E F G hr => body E (okc_X5_addProgramme F G) hr)
theorem con_X5_addProgramme (S : ZT) (z : Int32) (f : Int32) (t : Int32) (hp : S.ok ∧ S.programmes < 8) : Con yX5_addProgramme cX5_addProgramme 4 (some .int) 0 zW [.ref 0, .int z, .int f, .int t] S (some (.int (S.programmes + 1))) (S.addP z f t) := by
  refine mk_X5_addProgramme (fun E C hr => ?_)
  have hn : vp_in S.programmes 8 := isN_add hp.1.2 hp.2
  have hs := hp.2
  (refine nx_ok C (cuts := cut_X5_addProgramme) 1000 _ _ _ _ ?_; simp only [w_X5_addProgramme, ops_eq, xst_eq, call_eq, oK_eq, Option.toList_some, Option.toList_none, List.cons_append, List.nil_append, List.length_cons, List.length_nil, true_and, and_true, Nat.reduceAdd, zW_F, zW_A, zW_S, zW_P, ZT_gs])
  ((repeat' (with_reducible first | apply And.intro | intro _)) <;> simp_all [ZT.addP, ZT.m, ZT_gs])
def sp_X5_addProgramme : Sp ZT := fun av S K => match av with
  | [.ref 0, .int z, .int f, .int t] => (S.ok ∧ S.programmes < 8) ∧ K (some (.int (S.programmes + 1))) (S.addP z f t)
  | _ => False
theorem se_X5_addProgramme (z : Int32) (f : Int32) (t : Int32) (S : ZT) (K : Option Value → ZT → Prop) : sp_X5_addProgramme [.ref 0, .int z, .int f, .int t] S K = ((S.ok ∧ S.programmes < 8) ∧ K (some (.int (S.programmes + 1))) (S.addP z f t)) := rfl
theorem spok_X5_addProgramme : SpOk yX5_addProgramme cX5_addProgramme 4 (some .int) 0 zW sp_X5_addProgramme := by
  intro av S K h
  unfold sp_X5_addProgramme at h
  split at h
  · rename_i z f t; exact ⟨some (.int (S.programmes + 1)), S.addP z f t, trivial, con_X5_addProgramme S z f t h.1, h.2⟩
  · exact h.elim
def cod_X5_has : List (Nat × Op ZT) := [(0, O_iload 1 1), (1, O_if_lt 16), (4, O_iload 1 1), (5, O_aload 0 1), (6, O_getf zW 5 2), (9, O_icmp_ge 16), (12, O_int 1 1), (13, O_goto 17), (16, O_int 0 1), (17, O_zret)]
abbrev cut_X5_has : List Nat := []
set_option maxRecDepth 100000 in
theorem okc_X5_has {E : En} (F : Fx E RX5 cX5_has 2 0) (G : Fr E (some .boolean)) : CodOk E zW cod_X5_has := by
  unfold CodOk cod_X5_has
  refine List.forall_mem_cons.mpr ⟨ok_iload_n F dX5_has_0 rfl (by decide), ?_⟩
  refine List.forall_mem_cons.mpr ⟨ok_if_lt F dX5_has_1 (by decide) (by decide) (by decide), ?_⟩
  refine List.forall_mem_cons.mpr ⟨ok_iload_n F dX5_has_4 rfl (by decide), ?_⟩
  refine List.forall_mem_cons.mpr ⟨ok_aload_n F dX5_has_5 rfl (by decide), ?_⟩
  refine List.forall_mem_cons.mpr ⟨ok_getf F flX5_34 dX5_has_6 (by decide), ?_⟩
  refine List.forall_mem_cons.mpr ⟨ok_icmp_ge F dX5_has_9 (by decide) (by decide) (by decide), ?_⟩
  refine List.forall_mem_cons.mpr ⟨ok_iconst F dX5_has_12 (by decide) (by decide), ?_⟩
  refine List.forall_mem_cons.mpr ⟨ok_goto F dX5_has_13 (by decide) (by decide) (by decide), ?_⟩
  refine List.forall_mem_cons.mpr ⟨ok_iconst F dX5_has_16 (by decide) (by decide), ?_⟩
  refine List.forall_mem_cons.mpr ⟨ok_zret F G dX5_has_17 (by decide), ?_⟩
  exact fun _ h => absurd h List.not_mem_nil
set_option maxRecDepth 100000 in
theorem w_X5_has : (∀ (K : Kt ZT) (n : Nat) (L : xL) (st : List Value) (S : ZT), nx cod_X5_has cut_X5_has K (n + 1) 0 L st S = (O_iload 1 1) (nx cod_X5_has cut_X5_has K n) 0 L st S) ∧
  (∀ (K : Kt ZT) (n : Nat) (L : xL) (st : List Value) (S : ZT), nx cod_X5_has cut_X5_has K (n + 1) 1 L st S = (O_if_lt 16) (nx cod_X5_has cut_X5_has K n) 1 L st S) ∧
  (∀ (K : Kt ZT) (n : Nat) (L : xL) (st : List Value) (S : ZT), nx cod_X5_has cut_X5_has K (n + 1) 4 L st S = (O_iload 1 1) (nx cod_X5_has cut_X5_has K n) 4 L st S) ∧
  (∀ (K : Kt ZT) (n : Nat) (L : xL) (st : List Value) (S : ZT), nx cod_X5_has cut_X5_has K (n + 1) 5 L st S = (O_aload 0 1) (nx cod_X5_has cut_X5_has K n) 5 L st S) ∧
  (∀ (K : Kt ZT) (n : Nat) (L : xL) (st : List Value) (S : ZT), nx cod_X5_has cut_X5_has K (n + 1) 6 L st S = (O_getf zW 5 2) (nx cod_X5_has cut_X5_has K n) 6 L st S) ∧
  (∀ (K : Kt ZT) (n : Nat) (L : xL) (st : List Value) (S : ZT), nx cod_X5_has cut_X5_has K (n + 1) 9 L st S = (O_icmp_ge 16) (nx cod_X5_has cut_X5_has K n) 9 L st S) ∧
  (∀ (K : Kt ZT) (n : Nat) (L : xL) (st : List Value) (S : ZT), nx cod_X5_has cut_X5_has K (n + 1) 12 L st S = (O_int 1 1) (nx cod_X5_has cut_X5_has K n) 12 L st S) ∧
  (∀ (K : Kt ZT) (n : Nat) (L : xL) (st : List Value) (S : ZT), nx cod_X5_has cut_X5_has K (n + 1) 13 L st S = (O_goto 17) (nx cod_X5_has cut_X5_has K n) 13 L st S) ∧
  (∀ (K : Kt ZT) (n : Nat) (L : xL) (st : List Value) (S : ZT), nx cod_X5_has cut_X5_has K (n + 1) 16 L st S = (O_int 0 1) (nx cod_X5_has cut_X5_has K n) 16 L st S) ∧
  (∀ (K : Kt ZT) (n : Nat) (L : xL) (st : List Value) (S : ZT), nx cod_X5_has cut_X5_has K (n + 1) 17 L st S = (O_zret) (nx cod_X5_has cut_X5_has K n) 17 L st S) ∧
  (∀ (K : Kt ZT) (n : Nat) (L : xL) (st : List Value) (S : ZT), nx cod_X5_has cut_X5_has K (n + 1) 100000 L st S = K 100000 L st S) := by
  repeat' apply And.intro
  all_goals (intros; rfl)
set_option maxRecDepth 100000 in
theorem mk_X5_has {P P' : ZT} {r : Option Value} {p0 : Int32} (body : ∀ E : En, CodOk E zW cod_X5_has → Gd E zW 100000 [] r.toList P' → Gd E zW 0 [some (.ref 0), some (.int p0)] [] P) : Con yX5_has cX5_has 2 (some .boolean) 0 zW [.ref 0, .int p0] P r P' :=
  Con.of (by decide) rfl rfl (Nat.le_of_ble_eq_true rfl) (fun E F G hr => body E (okc_X5_has F G) hr)
theorem con_X5_has (S : ZT) (p : Int32) : Con yX5_has cX5_has 2 (some .boolean) 0 zW [.ref 0, .int p] S (some (.int (bI (S.has p)))) (S) := by
  refine mk_X5_has (fun E C hr => ?_)
  (refine nx_ok C (cuts := cut_X5_has) 1000 _ _ _ _ ?_; simp only [w_X5_has, ops_eq, xst_eq, call_eq, oK_eq, Option.toList_some, Option.toList_none, List.cons_append, List.nil_append, List.length_cons, List.length_nil, true_and, and_true, Nat.reduceAdd, zW_F, zW_A, zW_S, zW_P, ZT_gs, bI_eq])
  ((repeat' (with_reducible first | apply And.intro | intro _)) <;> simp_all [ZT.has, bI, ZT_gs])
def sp_X5_has : Sp ZT := fun av S K => match av with
  | [.ref 0, .int p] => K (some (.int (bI (S.has p)))) (S)
  | _ => False
theorem se_X5_has (p : Int32) (S : ZT) (K : Option Value → ZT → Prop) : sp_X5_has [.ref 0, .int p] S K = (K (some (.int (bI (S.has p)))) (S)) := rfl
theorem spok_X5_has : SpOk yX5_has cX5_has 2 (some .boolean) 0 zW sp_X5_has := by
  intro av S K h
  unfold sp_X5_has at h
  split at h
  · rename_i p; exact ⟨some (.int (bI (S.has p))), S, trivial, con_X5_has S p, h⟩
  · exact h.elim
def ZT.isOp (S : ZT) (i : Nat) : Bool := decide (¬ S.isOpen i = 0)
def ZT.openOnes (S : ZT) : Int32 := it (fun z r => r + bI (S.isOp z)) 0 S.n
theorem flX5_15 : fldOk RX5 15 5 1 = true := by decide +kernel
def cod_X5_openOnes : List (Nat × Op ZT) := [(0, O_int 0 1), (1, O_istore 1 1), (2, O_int 0 1), (3, O_istore 2 1), (4, O_iload 2 1), (5, O_aload 0 1), (6, O_getf zW 5 2), (9, O_icmp_ge 35), (12, O_iload 1 1), (13, O_aload 0 1), (14, O_getf zW 5 1), (17, O_iload 2 1), (18, O_ald zW 1), (19, O_if_eq 26), (22, O_int 1 1), (23, O_goto 27), (26, O_int 0 1), (27, O_iadd), (28, O_istore 1 1), (29, O_iinc 2 1), (32, O_goto 4), (35, O_iload 1 1), (36, O_iret)]
abbrev cut_X5_openOnes : List Nat := [4]
set_option maxRecDepth 100000 in
theorem okc_X5_openOnes {E : En} (F : Fx E RX5 cX5_openOnes 3 0) (G : Fr E (some .int)) : CodOk E zW cod_X5_openOnes := by
  unfold CodOk cod_X5_openOnes
  refine List.forall_mem_cons.mpr ⟨ok_iconst F dX5_openOnes_0 (by decide) (by decide), ?_⟩
  refine List.forall_mem_cons.mpr ⟨ok_istore_n F dX5_openOnes_1 rfl (by decide) (by decide), ?_⟩
  refine List.forall_mem_cons.mpr ⟨ok_iconst F dX5_openOnes_2 (by decide) (by decide), ?_⟩
  refine List.forall_mem_cons.mpr ⟨ok_istore_n F dX5_openOnes_3 rfl (by decide) (by decide), ?_⟩
  refine List.forall_mem_cons.mpr ⟨ok_iload_n F dX5_openOnes_4 rfl (by decide), ?_⟩
  refine List.forall_mem_cons.mpr ⟨ok_aload_n F dX5_openOnes_5 rfl (by decide), ?_⟩
  refine List.forall_mem_cons.mpr ⟨ok_getf F flX5_34 dX5_openOnes_6 (by decide), ?_⟩
  refine List.forall_mem_cons.mpr ⟨ok_icmp_ge F dX5_openOnes_9 (by decide) (by decide) (by decide), ?_⟩
  refine List.forall_mem_cons.mpr ⟨ok_iload_n F dX5_openOnes_12 rfl (by decide), ?_⟩
  refine List.forall_mem_cons.mpr ⟨ok_aload_n F dX5_openOnes_13 rfl (by decide), ?_⟩
  refine List.forall_mem_cons.mpr ⟨ok_getf F flX5_15 dX5_openOnes_14 (by decide), ?_⟩
  refine List.forall_mem_cons.mpr ⟨ok_iload_n F dX5_openOnes_17 rfl (by decide), ?_⟩
  refine List.forall_mem_cons.mpr ⟨ok_zald F dX5_openOnes_18 (by decide), ?_⟩
  refine List.forall_mem_cons.mpr ⟨ok_if_eq F dX5_openOnes_19 (by decide) (by decide) (by decide), ?_⟩
  refine List.forall_mem_cons.mpr ⟨ok_iconst F dX5_openOnes_22 (by decide) (by decide), ?_⟩
  refine List.forall_mem_cons.mpr ⟨ok_goto F dX5_openOnes_23 (by decide) (by decide) (by decide), ?_⟩
  refine List.forall_mem_cons.mpr ⟨ok_iconst F dX5_openOnes_26 (by decide) (by decide), ?_⟩
  refine List.forall_mem_cons.mpr ⟨ok_iadd F dX5_openOnes_27 (by decide), ?_⟩
  refine List.forall_mem_cons.mpr ⟨ok_istore_n F dX5_openOnes_28 rfl (by decide) (by decide), ?_⟩
  refine List.forall_mem_cons.mpr ⟨ok_iinc F dX5_openOnes_29 (by decide) (by decide) (by decide), ?_⟩
  refine List.forall_mem_cons.mpr ⟨ok_goto F dX5_openOnes_32 (by decide) (by decide) (by decide), ?_⟩
  refine List.forall_mem_cons.mpr ⟨ok_iload_n F dX5_openOnes_35 rfl (by decide), ?_⟩
  refine List.forall_mem_cons.mpr ⟨ok_iret F G dX5_openOnes_36 (by decide), ?_⟩
  exact fun _ h => absurd h List.not_mem_nil
set_option maxRecDepth 100000 in
theorem w_X5_openOnes : (∀ (K : Kt ZT) (n : Nat) (L : xL) (st : List Value) (S : ZT), nx cod_X5_openOnes cut_X5_openOnes K (n + 1) 0 L st S = (O_int 0 1) (nx cod_X5_openOnes cut_X5_openOnes K n) 0 L st S) ∧
  (∀ (K : Kt ZT) (n : Nat) (L : xL) (st : List Value) (S : ZT), nx cod_X5_openOnes cut_X5_openOnes K (n + 1) 1 L st S = (O_istore 1 1) (nx cod_X5_openOnes cut_X5_openOnes K n) 1 L st S) ∧
  (∀ (K : Kt ZT) (n : Nat) (L : xL) (st : List Value) (S : ZT), nx cod_X5_openOnes cut_X5_openOnes K (n + 1) 2 L st S = (O_int 0 1) (nx cod_X5_openOnes cut_X5_openOnes K n) 2 L st S) ∧
  (∀ (K : Kt ZT) (n : Nat) (L : xL) (st : List Value) (S : ZT), nx cod_X5_openOnes cut_X5_openOnes K (n + 1) 3 L st S = (O_istore 2 1) (nx cod_X5_openOnes cut_X5_openOnes K n) 3 L st S) ∧
  (∀ (K : Kt ZT) (n : Nat) (L : xL) (st : List Value) (S : ZT), nx cod_X5_openOnes cut_X5_openOnes K (n + 1) 4 L st S = K 4 L st S) ∧
  (∀ (K : Kt ZT) (n : Nat) (L : xL) (st : List Value) (S : ZT), nx1 cod_X5_openOnes cut_X5_openOnes K n 4 L st S = (O_iload 2 1) (nx cod_X5_openOnes cut_X5_openOnes K n) 4 L st S) ∧
  (∀ (K : Kt ZT) (n : Nat) (L : xL) (st : List Value) (S : ZT), nx cod_X5_openOnes cut_X5_openOnes K (n + 1) 5 L st S = (O_aload 0 1) (nx cod_X5_openOnes cut_X5_openOnes K n) 5 L st S) ∧
  (∀ (K : Kt ZT) (n : Nat) (L : xL) (st : List Value) (S : ZT), nx cod_X5_openOnes cut_X5_openOnes K (n + 1) 6 L st S = (O_getf zW 5 2) (nx cod_X5_openOnes cut_X5_openOnes K n) 6 L st S) ∧
  (∀ (K : Kt ZT) (n : Nat) (L : xL) (st : List Value) (S : ZT), nx cod_X5_openOnes cut_X5_openOnes K (n + 1) 9 L st S = (O_icmp_ge 35) (nx cod_X5_openOnes cut_X5_openOnes K n) 9 L st S) ∧
  (∀ (K : Kt ZT) (n : Nat) (L : xL) (st : List Value) (S : ZT), nx cod_X5_openOnes cut_X5_openOnes K (n + 1) 12 L st S = (O_iload 1 1) (nx cod_X5_openOnes cut_X5_openOnes K n) 12 L st S) ∧
  (∀ (K : Kt ZT) (n : Nat) (L : xL) (st : List Value) (S : ZT), nx cod_X5_openOnes cut_X5_openOnes K (n + 1) 13 L st S = (O_aload 0 1) (nx cod_X5_openOnes cut_X5_openOnes K n) 13 L st S) ∧
  (∀ (K : Kt ZT) (n : Nat) (L : xL) (st : List Value) (S : ZT), nx cod_X5_openOnes cut_X5_openOnes K (n + 1) 14 L st S = (O_getf zW 5 1) (nx cod_X5_openOnes cut_X5_openOnes K n) 14 L st S) ∧
  (∀ (K : Kt ZT) (n : Nat) (L : xL) (st : List Value) (S : ZT), nx cod_X5_openOnes cut_X5_openOnes K (n + 1) 17 L st S = (O_iload 2 1) (nx cod_X5_openOnes cut_X5_openOnes K n) 17 L st S) ∧
  (∀ (K : Kt ZT) (n : Nat) (L : xL) (st : List Value) (S : ZT), nx cod_X5_openOnes cut_X5_openOnes K (n + 1) 18 L st S = (O_ald zW 1) (nx cod_X5_openOnes cut_X5_openOnes K n) 18 L st S) ∧
  (∀ (K : Kt ZT) (n : Nat) (L : xL) (st : List Value) (S : ZT), nx cod_X5_openOnes cut_X5_openOnes K (n + 1) 19 L st S = (O_if_eq 26) (nx cod_X5_openOnes cut_X5_openOnes K n) 19 L st S) ∧
  (∀ (K : Kt ZT) (n : Nat) (L : xL) (st : List Value) (S : ZT), nx cod_X5_openOnes cut_X5_openOnes K (n + 1) 22 L st S = (O_int 1 1) (nx cod_X5_openOnes cut_X5_openOnes K n) 22 L st S) ∧
  (∀ (K : Kt ZT) (n : Nat) (L : xL) (st : List Value) (S : ZT), nx cod_X5_openOnes cut_X5_openOnes K (n + 1) 23 L st S = (O_goto 27) (nx cod_X5_openOnes cut_X5_openOnes K n) 23 L st S) ∧
  (∀ (K : Kt ZT) (n : Nat) (L : xL) (st : List Value) (S : ZT), nx cod_X5_openOnes cut_X5_openOnes K (n + 1) 26 L st S = (O_int 0 1) (nx cod_X5_openOnes cut_X5_openOnes K n) 26 L st S) ∧
  (∀ (K : Kt ZT) (n : Nat) (L : xL) (st : List Value) (S : ZT), nx cod_X5_openOnes cut_X5_openOnes K (n + 1) 27 L st S = (O_iadd) (nx cod_X5_openOnes cut_X5_openOnes K n) 27 L st S) ∧
  (∀ (K : Kt ZT) (n : Nat) (L : xL) (st : List Value) (S : ZT), nx cod_X5_openOnes cut_X5_openOnes K (n + 1) 28 L st S = (O_istore 1 1) (nx cod_X5_openOnes cut_X5_openOnes K n) 28 L st S) ∧
  (∀ (K : Kt ZT) (n : Nat) (L : xL) (st : List Value) (S : ZT), nx cod_X5_openOnes cut_X5_openOnes K (n + 1) 29 L st S = (O_iinc 2 1) (nx cod_X5_openOnes cut_X5_openOnes K n) 29 L st S) ∧
  (∀ (K : Kt ZT) (n : Nat) (L : xL) (st : List Value) (S : ZT), nx cod_X5_openOnes cut_X5_openOnes K (n + 1) 32 L st S = (O_goto 4) (nx cod_X5_openOnes cut_X5_openOnes K n) 32 L st S) ∧
  (∀ (K : Kt ZT) (n : Nat) (L : xL) (st : List Value) (S : ZT), nx cod_X5_openOnes cut_X5_openOnes K (n + 1) 35 L st S = (O_iload 1 1) (nx cod_X5_openOnes cut_X5_openOnes K n) 35 L st S) ∧
  (∀ (K : Kt ZT) (n : Nat) (L : xL) (st : List Value) (S : ZT), nx cod_X5_openOnes cut_X5_openOnes K (n + 1) 36 L st S = (O_iret) (nx cod_X5_openOnes cut_X5_openOnes K n) 36 L st S) ∧
  (∀ (K : Kt ZT) (n : Nat) (L : xL) (st : List Value) (S : ZT), nx cod_X5_openOnes cut_X5_openOnes K (n + 1) 100000 L st S = K 100000 L st S) := by
  repeat' apply And.intro
  all_goals (intros; rfl)
set_option maxRecDepth 100000 in
theorem mk_X5_openOnes {P P' : ZT} {r : Option Value}  (body : ∀ E : En, CodOk E zW cod_X5_openOnes → Gd E zW 100000 [] r.toList P' → Gd E zW 0 [some (.ref 0), none, none] [] P) : Con yX5_openOnes cX5_openOnes 3 (some .int) 0 zW [.ref 0] P r P' :=
  Con.of (by decide) rfl rfl (Nat.le_of_ble_eq_true rfl) (fun E F G hr => body E (okc_X5_openOnes F G) hr)
theorem con_X5_openOnes (S : ZT)  (hp : S.ok) : Con yX5_openOnes cX5_openOnes 3 (some .int) 0 zW [.ref 0] S (some (.int (S.openOnes))) (S) := by
  refine mk_X5_openOnes (fun E C hr => ?_)
  (refine nx_ok C (cuts := cut_X5_openOnes) 1000 _ _ _ _ ?_; simp only [w_X5_openOnes, ops_eq, xst_eq, call_eq, oK_eq, Option.toList_some, Option.toList_none, List.cons_append, List.nil_append, List.length_cons, List.length_nil, true_and, and_true, Nat.reduceAdd, zW_F, zW_A, zW_S, zW_P, ZT_gs])
  refine it_up (f := fun z r => r + bI (S.isOp z)) (n := S.n) (fun _ _ => True) (fun i r => Gd E zW 4 [some (.ref 0), some (.int r), some (.int (nI i))] [] S) trivial (fun _ _ _ _ => trivial) (fun i r hi _ hn => ?_) ?_
  · have hx := ixs hp.1 hi
    (refine nx1_ok C cut_X5_openOnes 1000 ?_; simp only [w_X5_openOnes, ops_eq, xst_eq, call_eq, oK_eq, Option.toList_some, Option.toList_none, List.cons_append, List.nil_append, List.length_cons, List.length_nil, true_and, and_true, Nat.reduceAdd, zW_F, zW_A, zW_S, zW_P, ZT_gs, hx])
    ((repeat' (with_reducible first | apply And.intro | intro _)) <;> simp_all [ZT.isOp, bI, ZT_gs])
  · have hx := ixe hp.1
    (refine nx1_ok C cut_X5_openOnes 1000 ?_; simp only [w_X5_openOnes, ops_eq, xst_eq, call_eq, oK_eq, Option.toList_some, Option.toList_none, List.cons_append, List.nil_append, List.length_cons, List.length_nil, true_and, and_true, Nat.reduceAdd, zW_F, zW_A, zW_S, zW_P, ZT_gs, hx])
    ((repeat' (with_reducible first | apply And.intro | intro _)) <;> simp_all [ZT.openOnes, ZT_gs])
def sp_X5_openOnes : Sp ZT := fun av S K => match av with
  | [.ref 0] => (S.ok) ∧ K (some (.int (S.openOnes))) (S)
  | _ => False
theorem se_X5_openOnes  (S : ZT) (K : Option Value → ZT → Prop) : sp_X5_openOnes [.ref 0] S K = ((S.ok) ∧ K (some (.int (S.openOnes))) (S)) := rfl
theorem spok_X5_openOnes : SpOk yX5_openOnes cX5_openOnes 3 (some .int) 0 zW sp_X5_openOnes := by
  intro av S K h
  unfold sp_X5_openOnes at h
  split at h
  · exact ⟨some (.int (S.openOnes)), S, trivial, con_X5_openOnes S  h.1, h.2⟩
  · exact h.elim
def ZT.progsOf (S : ZT) (z : Int32) : Int32 := it (fun i r => r + bI (decide (S.pzones i = z))) 0 S.m
def cod_X5_programmesOf : List (Nat × Op ZT) := [(0, O_int 0 1), (1, O_istore 2 1), (2, O_int 0 1), (3, O_istore 3 1), (4, O_iload 3 1), (5, O_aload 0 1), (6, O_getf zW 5 6), (9, O_icmp_ge 36), (12, O_iload 2 1), (13, O_aload 0 1), (14, O_getf zW 5 3), (17, O_iload 3 1), (18, O_ald zW 0), (19, O_iload 1 1), (20, O_icmp_ne 27), (23, O_int 1 1), (24, O_goto 28), (27, O_int 0 1), (28, O_iadd), (29, O_istore 2 1), (30, O_iinc 3 1), (33, O_goto 4), (36, O_iload 2 1), (37, O_iret)]
abbrev cut_X5_programmesOf : List Nat := [4]
set_option maxRecDepth 100000 in
theorem okc_X5_programmesOf {E : En} (F : Fx E RX5 cX5_programmesOf 4 0) (G : Fr E (some .int)) : CodOk E zW cod_X5_programmesOf := by
  unfold CodOk cod_X5_programmesOf
  refine List.forall_mem_cons.mpr ⟨ok_iconst F dX5_programmesOf_0 (by decide) (by decide), ?_⟩
  refine List.forall_mem_cons.mpr ⟨ok_istore_n F dX5_programmesOf_1 rfl (by decide) (by decide), ?_⟩
  refine List.forall_mem_cons.mpr ⟨ok_iconst F dX5_programmesOf_2 (by decide) (by decide), ?_⟩
  refine List.forall_mem_cons.mpr ⟨ok_istore_n F dX5_programmesOf_3 rfl (by decide) (by decide), ?_⟩
  refine List.forall_mem_cons.mpr ⟨ok_iload_n F dX5_programmesOf_4 rfl (by decide), ?_⟩
  refine List.forall_mem_cons.mpr ⟨ok_aload_n F dX5_programmesOf_5 rfl (by decide), ?_⟩
  refine List.forall_mem_cons.mpr ⟨ok_getf F flX5_38 dX5_programmesOf_6 (by decide), ?_⟩
  refine List.forall_mem_cons.mpr ⟨ok_icmp_ge F dX5_programmesOf_9 (by decide) (by decide) (by decide), ?_⟩
  refine List.forall_mem_cons.mpr ⟨ok_iload_n F dX5_programmesOf_12 rfl (by decide), ?_⟩
  refine List.forall_mem_cons.mpr ⟨ok_aload_n F dX5_programmesOf_13 rfl (by decide), ?_⟩
  refine List.forall_mem_cons.mpr ⟨ok_getf F flX5_19 dX5_programmesOf_14 (by decide), ?_⟩
  refine List.forall_mem_cons.mpr ⟨ok_iload_n F dX5_programmesOf_17 rfl (by decide), ?_⟩
  refine List.forall_mem_cons.mpr ⟨ok_iald F dX5_programmesOf_18 (by decide), ?_⟩
  refine List.forall_mem_cons.mpr ⟨ok_iload_n F dX5_programmesOf_19 rfl (by decide), ?_⟩
  refine List.forall_mem_cons.mpr ⟨ok_icmp_ne F dX5_programmesOf_20 (by decide) (by decide) (by decide), ?_⟩
  refine List.forall_mem_cons.mpr ⟨ok_iconst F dX5_programmesOf_23 (by decide) (by decide), ?_⟩
  refine List.forall_mem_cons.mpr ⟨ok_goto F dX5_programmesOf_24 (by decide) (by decide) (by decide), ?_⟩
  refine List.forall_mem_cons.mpr ⟨ok_iconst F dX5_programmesOf_27 (by decide) (by decide), ?_⟩
  refine List.forall_mem_cons.mpr ⟨ok_iadd F dX5_programmesOf_28 (by decide), ?_⟩
  refine List.forall_mem_cons.mpr ⟨ok_istore_n F dX5_programmesOf_29 rfl (by decide) (by decide), ?_⟩
  refine List.forall_mem_cons.mpr ⟨ok_iinc F dX5_programmesOf_30 (by decide) (by decide) (by decide), ?_⟩
  refine List.forall_mem_cons.mpr ⟨ok_goto F dX5_programmesOf_33 (by decide) (by decide) (by decide), ?_⟩
  refine List.forall_mem_cons.mpr ⟨ok_iload_n F dX5_programmesOf_36 rfl (by decide), ?_⟩
  refine List.forall_mem_cons.mpr ⟨ok_iret F G dX5_programmesOf_37 (by decide), ?_⟩
  exact fun _ h => absurd h List.not_mem_nil
set_option maxRecDepth 100000 in
theorem w_X5_programmesOf : (∀ (K : Kt ZT) (n : Nat) (L : xL) (st : List Value) (S : ZT), nx cod_X5_programmesOf cut_X5_programmesOf K (n + 1) 0 L st S = (O_int 0 1) (nx cod_X5_programmesOf cut_X5_programmesOf K n) 0 L st S) ∧
  (∀ (K : Kt ZT) (n : Nat) (L : xL) (st : List Value) (S : ZT), nx cod_X5_programmesOf cut_X5_programmesOf K (n + 1) 1 L st S = (O_istore 2 1) (nx cod_X5_programmesOf cut_X5_programmesOf K n) 1 L st S) ∧
  (∀ (K : Kt ZT) (n : Nat) (L : xL) (st : List Value) (S : ZT), nx cod_X5_programmesOf cut_X5_programmesOf K (n + 1) 2 L st S = (O_int 0 1) (nx cod_X5_programmesOf cut_X5_programmesOf K n) 2 L st S) ∧
  (∀ (K : Kt ZT) (n : Nat) (L : xL) (st : List Value) (S : ZT), nx cod_X5_programmesOf cut_X5_programmesOf K (n + 1) 3 L st S = (O_istore 3 1) (nx cod_X5_programmesOf cut_X5_programmesOf K n) 3 L st S) ∧
  (∀ (K : Kt ZT) (n : Nat) (L : xL) (st : List Value) (S : ZT), nx cod_X5_programmesOf cut_X5_programmesOf K (n + 1) 4 L st S = K 4 L st S) ∧
  (∀ (K : Kt ZT) (n : Nat) (L : xL) (st : List Value) (S : ZT), nx1 cod_X5_programmesOf cut_X5_programmesOf K n 4 L st S = (O_iload 3 1) (nx cod_X5_programmesOf cut_X5_programmesOf K n) 4 L st S) ∧
  (∀ (K : Kt ZT) (n : Nat) (L : xL) (st : List Value) (S : ZT), nx cod_X5_programmesOf cut_X5_programmesOf K (n + 1) 5 L st S = (O_aload 0 1) (nx cod_X5_programmesOf cut_X5_programmesOf K n) 5 L st S) ∧
  (∀ (K : Kt ZT) (n : Nat) (L : xL) (st : List Value) (S : ZT), nx cod_X5_programmesOf cut_X5_programmesOf K (n + 1) 6 L st S = (O_getf zW 5 6) (nx cod_X5_programmesOf cut_X5_programmesOf K n) 6 L st S) ∧
  (∀ (K : Kt ZT) (n : Nat) (L : xL) (st : List Value) (S : ZT), nx cod_X5_programmesOf cut_X5_programmesOf K (n + 1) 9 L st S = (O_icmp_ge 36) (nx cod_X5_programmesOf cut_X5_programmesOf K n) 9 L st S) ∧
  (∀ (K : Kt ZT) (n : Nat) (L : xL) (st : List Value) (S : ZT), nx cod_X5_programmesOf cut_X5_programmesOf K (n + 1) 12 L st S = (O_iload 2 1) (nx cod_X5_programmesOf cut_X5_programmesOf K n) 12 L st S) ∧
  (∀ (K : Kt ZT) (n : Nat) (L : xL) (st : List Value) (S : ZT), nx cod_X5_programmesOf cut_X5_programmesOf K (n + 1) 13 L st S = (O_aload 0 1) (nx cod_X5_programmesOf cut_X5_programmesOf K n) 13 L st S) ∧
  (∀ (K : Kt ZT) (n : Nat) (L : xL) (st : List Value) (S : ZT), nx cod_X5_programmesOf cut_X5_programmesOf K (n + 1) 14 L st S = (O_getf zW 5 3) (nx cod_X5_programmesOf cut_X5_programmesOf K n) 14 L st S) ∧
  (∀ (K : Kt ZT) (n : Nat) (L : xL) (st : List Value) (S : ZT), nx cod_X5_programmesOf cut_X5_programmesOf K (n + 1) 17 L st S = (O_iload 3 1) (nx cod_X5_programmesOf cut_X5_programmesOf K n) 17 L st S) ∧
  (∀ (K : Kt ZT) (n : Nat) (L : xL) (st : List Value) (S : ZT), nx cod_X5_programmesOf cut_X5_programmesOf K (n + 1) 18 L st S = (O_ald zW 0) (nx cod_X5_programmesOf cut_X5_programmesOf K n) 18 L st S) ∧
  (∀ (K : Kt ZT) (n : Nat) (L : xL) (st : List Value) (S : ZT), nx cod_X5_programmesOf cut_X5_programmesOf K (n + 1) 19 L st S = (O_iload 1 1) (nx cod_X5_programmesOf cut_X5_programmesOf K n) 19 L st S) ∧
  (∀ (K : Kt ZT) (n : Nat) (L : xL) (st : List Value) (S : ZT), nx cod_X5_programmesOf cut_X5_programmesOf K (n + 1) 20 L st S = (O_icmp_ne 27) (nx cod_X5_programmesOf cut_X5_programmesOf K n) 20 L st S) ∧
  (∀ (K : Kt ZT) (n : Nat) (L : xL) (st : List Value) (S : ZT), nx cod_X5_programmesOf cut_X5_programmesOf K (n + 1) 23 L st S = (O_int 1 1) (nx cod_X5_programmesOf cut_X5_programmesOf K n) 23 L st S) ∧
  (∀ (K : Kt ZT) (n : Nat) (L : xL) (st : List Value) (S : ZT), nx cod_X5_programmesOf cut_X5_programmesOf K (n + 1) 24 L st S = (O_goto 28) (nx cod_X5_programmesOf cut_X5_programmesOf K n) 24 L st S) ∧
  (∀ (K : Kt ZT) (n : Nat) (L : xL) (st : List Value) (S : ZT), nx cod_X5_programmesOf cut_X5_programmesOf K (n + 1) 27 L st S = (O_int 0 1) (nx cod_X5_programmesOf cut_X5_programmesOf K n) 27 L st S) ∧
  (∀ (K : Kt ZT) (n : Nat) (L : xL) (st : List Value) (S : ZT), nx cod_X5_programmesOf cut_X5_programmesOf K (n + 1) 28 L st S = (O_iadd) (nx cod_X5_programmesOf cut_X5_programmesOf K n) 28 L st S) ∧
  (∀ (K : Kt ZT) (n : Nat) (L : xL) (st : List Value) (S : ZT), nx cod_X5_programmesOf cut_X5_programmesOf K (n + 1) 29 L st S = (O_istore 2 1) (nx cod_X5_programmesOf cut_X5_programmesOf K n) 29 L st S) ∧
  (∀ (K : Kt ZT) (n : Nat) (L : xL) (st : List Value) (S : ZT), nx cod_X5_programmesOf cut_X5_programmesOf K (n + 1) 30 L st S = (O_iinc 3 1) (nx cod_X5_programmesOf cut_X5_programmesOf K n) 30 L st S) ∧
  (∀ (K : Kt ZT) (n : Nat) (L : xL) (st : List Value) (S : ZT), nx cod_X5_programmesOf cut_X5_programmesOf K (n + 1) 33 L st S = (O_goto 4) (nx cod_X5_programmesOf cut_X5_programmesOf K n) 33 L st S) ∧
  (∀ (K : Kt ZT) (n : Nat) (L : xL) (st : List Value) (S : ZT), nx cod_X5_programmesOf cut_X5_programmesOf K (n + 1) 36 L st S = (O_iload 2 1) (nx cod_X5_programmesOf cut_X5_programmesOf K n) 36 L st S) ∧
  (∀ (K : Kt ZT) (n : Nat) (L : xL) (st : List Value) (S : ZT), nx cod_X5_programmesOf cut_X5_programmesOf K (n + 1) 37 L st S = (O_iret) (nx cod_X5_programmesOf cut_X5_programmesOf K n) 37 L st S) ∧
  (∀ (K : Kt ZT) (n : Nat) (L : xL) (st : List Value) (S : ZT), nx cod_X5_programmesOf cut_X5_programmesOf K (n + 1) 100000 L st S = K 100000 L st S) := by
  repeat' apply And.intro
  all_goals (intros; rfl)
set_option maxRecDepth 100000 in
theorem mk_X5_programmesOf {P P' : ZT} {r : Option Value} {p0 : Int32} (body : ∀ E : En, CodOk E zW cod_X5_programmesOf → Gd E zW 100000 [] r.toList P' → Gd E zW 0 [some (.ref 0), some (.int p0), none, none] [] P) : Con yX5_programmesOf cX5_programmesOf 4 (some .int) 0 zW [.ref 0, .int p0] P r P' :=
  Con.of (by decide) rfl rfl (Nat.le_of_ble_eq_true rfl) (fun E F G hr => body E (okc_X5_programmesOf F G) hr)
theorem con_X5_programmesOf (S : ZT) (z : Int32) (hp : S.ok) : Con yX5_programmesOf cX5_programmesOf 4 (some .int) 0 zW [.ref 0, .int z] S (some (.int (S.progsOf z))) (S) := by
  refine mk_X5_programmesOf (fun E C hr => ?_)
  (refine nx_ok C (cuts := cut_X5_programmesOf) 1000 _ _ _ _ ?_; simp only [w_X5_programmesOf, ops_eq, xst_eq, call_eq, oK_eq, Option.toList_some, Option.toList_none, List.cons_append, List.nil_append, List.length_cons, List.length_nil, true_and, and_true, Nat.reduceAdd, zW_F, zW_A, zW_S, zW_P, ZT_gs])
  refine it_up (f := fun i r => r + bI (decide (S.pzones i = z))) (n := S.m) (fun _ _ => True) (fun i r => Gd E zW 4 [some (.ref 0), some (.int z), some (.int r), some (.int (nI i))] [] S) trivial (fun _ _ _ _ => trivial) (fun i r hi _ hn => ?_) ?_
  · have hx := ixs hp.2 hi
    (refine nx1_ok C cut_X5_programmesOf 1000 ?_; simp only [w_X5_programmesOf, ops_eq, xst_eq, call_eq, oK_eq, Option.toList_some, Option.toList_none, List.cons_append, List.nil_append, List.length_cons, List.length_nil, true_and, and_true, Nat.reduceAdd, zW_F, zW_A, zW_S, zW_P, ZT_gs, hx])
    ((repeat' (with_reducible first | apply And.intro | intro _)) <;> simp_all [bI, ZT_gs])
  · have hx := ixe hp.2
    (refine nx1_ok C cut_X5_programmesOf 1000 ?_; simp only [w_X5_programmesOf, ops_eq, xst_eq, call_eq, oK_eq, Option.toList_some, Option.toList_none, List.cons_append, List.nil_append, List.length_cons, List.length_nil, true_and, and_true, Nat.reduceAdd, zW_F, zW_A, zW_S, zW_P, ZT_gs, hx])
    ((repeat' (with_reducible first | apply And.intro | intro _)) <;> simp_all [ZT.progsOf, ZT_gs])
def sp_X5_programmesOf : Sp ZT := fun av S K => match av with
  | [.ref 0, .int z] => (S.ok) ∧ K (some (.int (S.progsOf z))) (S)
  | _ => False
theorem se_X5_programmesOf (z : Int32) (S : ZT) (K : Option Value → ZT → Prop) : sp_X5_programmesOf [.ref 0, .int z] S K = ((S.ok) ∧ K (some (.int (S.progsOf z))) (S)) := rfl
theorem spok_X5_programmesOf : SpOk yX5_programmesOf cX5_programmesOf 4 (some .int) 0 zW sp_X5_programmesOf := by
  intro av S K h
  unfold sp_X5_programmesOf at h
  split at h
  · rename_i z; exact ⟨some (.int (S.progsOf z)), S, trivial, con_X5_programmesOf S z h.1, h.2⟩
  · exact h.elim
def ZT.takes (S : ZT) (z : Nat) (p : Int32) : Int32 := if S.isOpen z = 0 then 0 else S.demands z * p / 400
def cod_X5_takenBy : List (Nat × Op ZT) := [(0, O_aload 0 1), (1, O_getf zW 5 1), (4, O_iload 1 1), (5, O_ald zW 1), (6, O_if_eq 24), (9, O_aload 0 1), (10, O_getf zW 5 0), (13, O_iload 1 1), (14, O_ald zW 0), (15, O_iload 2 1), (16, O_imul), (17, O_int 400 3), (20, O_idiv), (21, O_goto 25), (24, O_int 0 1), (25, O_iret)]
abbrev cut_X5_takenBy : List Nat := []
set_option maxRecDepth 100000 in
theorem okc_X5_takenBy {E : En} (F : Fx E RX5 cX5_takenBy 3 0) (G : Fr E (some .int)) : CodOk E zW cod_X5_takenBy := by
  unfold CodOk cod_X5_takenBy
  refine List.forall_mem_cons.mpr ⟨ok_aload_n F dX5_takenBy_0 rfl (by decide), ?_⟩
  refine List.forall_mem_cons.mpr ⟨ok_getf F flX5_15 dX5_takenBy_1 (by decide), ?_⟩
  refine List.forall_mem_cons.mpr ⟨ok_iload_n F dX5_takenBy_4 rfl (by decide), ?_⟩
  refine List.forall_mem_cons.mpr ⟨ok_zald F dX5_takenBy_5 (by decide), ?_⟩
  refine List.forall_mem_cons.mpr ⟨ok_if_eq F dX5_takenBy_6 (by decide) (by decide) (by decide), ?_⟩
  refine List.forall_mem_cons.mpr ⟨ok_aload_n F dX5_takenBy_9 rfl (by decide), ?_⟩
  refine List.forall_mem_cons.mpr ⟨ok_getf F flX5_11 dX5_takenBy_10 (by decide), ?_⟩
  refine List.forall_mem_cons.mpr ⟨ok_iload_n F dX5_takenBy_13 rfl (by decide), ?_⟩
  refine List.forall_mem_cons.mpr ⟨ok_iald F dX5_takenBy_14 (by decide), ?_⟩
  refine List.forall_mem_cons.mpr ⟨ok_iload_n F dX5_takenBy_15 rfl (by decide), ?_⟩
  refine List.forall_mem_cons.mpr ⟨ok_imul F dX5_takenBy_16 (by decide), ?_⟩
  refine List.forall_mem_cons.mpr ⟨ok_sipush F dX5_takenBy_17 (by decide) (by decide), ?_⟩
  refine List.forall_mem_cons.mpr ⟨ok_idiv F dX5_takenBy_20 (by decide), ?_⟩
  refine List.forall_mem_cons.mpr ⟨ok_goto F dX5_takenBy_21 (by decide) (by decide) (by decide), ?_⟩
  refine List.forall_mem_cons.mpr ⟨ok_iconst F dX5_takenBy_24 (by decide) (by decide), ?_⟩
  refine List.forall_mem_cons.mpr ⟨ok_iret F G dX5_takenBy_25 (by decide), ?_⟩
  exact fun _ h => absurd h List.not_mem_nil
set_option maxRecDepth 100000 in
theorem w_X5_takenBy : (∀ (K : Kt ZT) (n : Nat) (L : xL) (st : List Value) (S : ZT), nx cod_X5_takenBy cut_X5_takenBy K (n + 1) 0 L st S = (O_aload 0 1) (nx cod_X5_takenBy cut_X5_takenBy K n) 0 L st S) ∧
  (∀ (K : Kt ZT) (n : Nat) (L : xL) (st : List Value) (S : ZT), nx cod_X5_takenBy cut_X5_takenBy K (n + 1) 1 L st S = (O_getf zW 5 1) (nx cod_X5_takenBy cut_X5_takenBy K n) 1 L st S) ∧
  (∀ (K : Kt ZT) (n : Nat) (L : xL) (st : List Value) (S : ZT), nx cod_X5_takenBy cut_X5_takenBy K (n + 1) 4 L st S = (O_iload 1 1) (nx cod_X5_takenBy cut_X5_takenBy K n) 4 L st S) ∧
  (∀ (K : Kt ZT) (n : Nat) (L : xL) (st : List Value) (S : ZT), nx cod_X5_takenBy cut_X5_takenBy K (n + 1) 5 L st S = (O_ald zW 1) (nx cod_X5_takenBy cut_X5_takenBy K n) 5 L st S) ∧
  (∀ (K : Kt ZT) (n : Nat) (L : xL) (st : List Value) (S : ZT), nx cod_X5_takenBy cut_X5_takenBy K (n + 1) 6 L st S = (O_if_eq 24) (nx cod_X5_takenBy cut_X5_takenBy K n) 6 L st S) ∧
  (∀ (K : Kt ZT) (n : Nat) (L : xL) (st : List Value) (S : ZT), nx cod_X5_takenBy cut_X5_takenBy K (n + 1) 9 L st S = (O_aload 0 1) (nx cod_X5_takenBy cut_X5_takenBy K n) 9 L st S) ∧
  (∀ (K : Kt ZT) (n : Nat) (L : xL) (st : List Value) (S : ZT), nx cod_X5_takenBy cut_X5_takenBy K (n + 1) 10 L st S = (O_getf zW 5 0) (nx cod_X5_takenBy cut_X5_takenBy K n) 10 L st S) ∧
  (∀ (K : Kt ZT) (n : Nat) (L : xL) (st : List Value) (S : ZT), nx cod_X5_takenBy cut_X5_takenBy K (n + 1) 13 L st S = (O_iload 1 1) (nx cod_X5_takenBy cut_X5_takenBy K n) 13 L st S) ∧
  (∀ (K : Kt ZT) (n : Nat) (L : xL) (st : List Value) (S : ZT), nx cod_X5_takenBy cut_X5_takenBy K (n + 1) 14 L st S = (O_ald zW 0) (nx cod_X5_takenBy cut_X5_takenBy K n) 14 L st S) ∧
  (∀ (K : Kt ZT) (n : Nat) (L : xL) (st : List Value) (S : ZT), nx cod_X5_takenBy cut_X5_takenBy K (n + 1) 15 L st S = (O_iload 2 1) (nx cod_X5_takenBy cut_X5_takenBy K n) 15 L st S) ∧
  (∀ (K : Kt ZT) (n : Nat) (L : xL) (st : List Value) (S : ZT), nx cod_X5_takenBy cut_X5_takenBy K (n + 1) 16 L st S = (O_imul) (nx cod_X5_takenBy cut_X5_takenBy K n) 16 L st S) ∧
  (∀ (K : Kt ZT) (n : Nat) (L : xL) (st : List Value) (S : ZT), nx cod_X5_takenBy cut_X5_takenBy K (n + 1) 17 L st S = (O_int 400 3) (nx cod_X5_takenBy cut_X5_takenBy K n) 17 L st S) ∧
  (∀ (K : Kt ZT) (n : Nat) (L : xL) (st : List Value) (S : ZT), nx cod_X5_takenBy cut_X5_takenBy K (n + 1) 20 L st S = (O_idiv) (nx cod_X5_takenBy cut_X5_takenBy K n) 20 L st S) ∧
  (∀ (K : Kt ZT) (n : Nat) (L : xL) (st : List Value) (S : ZT), nx cod_X5_takenBy cut_X5_takenBy K (n + 1) 21 L st S = (O_goto 25) (nx cod_X5_takenBy cut_X5_takenBy K n) 21 L st S) ∧
  (∀ (K : Kt ZT) (n : Nat) (L : xL) (st : List Value) (S : ZT), nx cod_X5_takenBy cut_X5_takenBy K (n + 1) 24 L st S = (O_int 0 1) (nx cod_X5_takenBy cut_X5_takenBy K n) 24 L st S) ∧
  (∀ (K : Kt ZT) (n : Nat) (L : xL) (st : List Value) (S : ZT), nx cod_X5_takenBy cut_X5_takenBy K (n + 1) 25 L st S = (O_iret) (nx cod_X5_takenBy cut_X5_takenBy K n) 25 L st S) ∧
  (∀ (K : Kt ZT) (n : Nat) (L : xL) (st : List Value) (S : ZT), nx cod_X5_takenBy cut_X5_takenBy K (n + 1) 100000 L st S = K 100000 L st S) := by
  repeat' apply And.intro
  all_goals (intros; rfl)
set_option maxRecDepth 100000 in
theorem mk_X5_takenBy {P P' : ZT} {r : Option Value} {p0 : Int32} {p1 : Int32} (body : ∀ E : En, CodOk E zW cod_X5_takenBy → Gd E zW 100000 [] r.toList P' → Gd E zW 0 [some (.ref 0), some (.int p0), some (.int p1)] [] P) : Con yX5_takenBy cX5_takenBy 3 (some .int) 0 zW [.ref 0, .int p0, .int p1] P r P' :=
  Con.of (by decide) rfl rfl (Nat.le_of_ble_eq_true rfl) (fun E F G hr => body E (okc_X5_takenBy F G) hr)
theorem con_X5_takenBy (S : ZT) (z : Int32) (p : Int32) (hp : vp_in z 8) : Con yX5_takenBy cX5_takenBy 3 (some .int) 0 zW [.ref 0, .int z, .int p] S (some (.int (S.takes z.toNatClampNeg p))) (S) := by
  refine mk_X5_takenBy (fun E C hr => ?_)
  (refine nx_ok C (cuts := cut_X5_takenBy) 1000 _ _ _ _ ?_; simp only [w_X5_takenBy, ops_eq, xst_eq, call_eq, oK_eq, Option.toList_some, Option.toList_none, List.cons_append, List.nil_append, List.length_cons, List.length_nil, true_and, and_true, Nat.reduceAdd, zW_F, zW_A, zW_S, zW_P, ZT_gs, show ¬ (400 : Int32) = 0 from by decide])
  ((repeat' (with_reducible first | apply And.intro | intro _)) <;> simp_all [ZT.takes, ZT_gs])
def sp_X5_takenBy : Sp ZT := fun av S K => match av with
  | [.ref 0, .int z, .int p] => (vp_in z 8) ∧ K (some (.int (S.takes z.toNatClampNeg p))) (S)
  | _ => False
theorem se_X5_takenBy (z : Int32) (p : Int32) (S : ZT) (K : Option Value → ZT → Prop) : sp_X5_takenBy [.ref 0, .int z, .int p] S K = ((vp_in z 8) ∧ K (some (.int (S.takes z.toNatClampNeg p))) (S)) := rfl
theorem spok_X5_takenBy : SpOk yX5_takenBy cX5_takenBy 3 (some .int) 0 zW sp_X5_takenBy := by
  intro av S K h
  unfold sp_X5_takenBy at h
  split at h
  · rename_i z p; exact ⟨some (.int (S.takes z.toNatClampNeg p)), S, trivial, con_X5_takenBy S z p h.1, h.2⟩
  · exact h.elim
def ZT.taken (S : ZT) (p : Int32) : Int32 := it (fun z r => r + S.takes z p) 0 S.n
def cod_X5_taken : List (Nat × Op ZT) := [(0, O_int 0 1), (1, O_istore 2 1), (2, O_int 0 1), (3, O_istore 3 1), (4, O_iload 3 1), (5, O_aload 0 1), (6, O_getf zW 5 2), (9, O_icmp_ge 27), (12, O_iload 2 1), (13, O_aload 0 1), (14, O_iload 3 1), (15, O_iload 1 1), (16, O_callV 2 0 (fun S => S) (fun _ S' => S') sp_X5_takenBy), (19, O_iadd), (20, O_istore 2 1), (21, O_iinc 3 1), (24, O_goto 4), (27, O_iload 2 1), (28, O_iret)]
abbrev cut_X5_taken : List Nat := [4]
set_option maxRecDepth 100000 in
theorem okc_X5_taken {E : En} (F : Fx E RX5 cX5_taken 4 1) (G : Fr E (some .int)) : CodOk E zW cod_X5_taken := by
  unfold CodOk cod_X5_taken
  refine List.forall_mem_cons.mpr ⟨ok_iconst F dX5_taken_0 (by decide) (by decide), ?_⟩
  refine List.forall_mem_cons.mpr ⟨ok_istore_n F dX5_taken_1 rfl (by decide) (by decide), ?_⟩
  refine List.forall_mem_cons.mpr ⟨ok_iconst F dX5_taken_2 (by decide) (by decide), ?_⟩
  refine List.forall_mem_cons.mpr ⟨ok_istore_n F dX5_taken_3 rfl (by decide) (by decide), ?_⟩
  refine List.forall_mem_cons.mpr ⟨ok_iload_n F dX5_taken_4 rfl (by decide), ?_⟩
  refine List.forall_mem_cons.mpr ⟨ok_aload_n F dX5_taken_5 rfl (by decide), ?_⟩
  refine List.forall_mem_cons.mpr ⟨ok_getf F flX5_34 dX5_taken_6 (by decide), ?_⟩
  refine List.forall_mem_cons.mpr ⟨ok_icmp_ge F dX5_taken_9 (by decide) (by decide) (by decide), ?_⟩
  refine List.forall_mem_cons.mpr ⟨ok_iload_n F dX5_taken_12 rfl (by decide), ?_⟩
  refine List.forall_mem_cons.mpr ⟨ok_aload_n F dX5_taken_13 rfl (by decide), ?_⟩
  refine List.forall_mem_cons.mpr ⟨ok_iload_n F dX5_taken_14 rfl (by decide), ?_⟩
  refine List.forall_mem_cons.mpr ⟨ok_iload_n F dX5_taken_15 rfl (by decide), ?_⟩
  refine List.forall_mem_cons.mpr ⟨ok_callV F spok_X5_takenBy (ln_id zW) rcv_zW (by decide +kernel) (by decide) dX5_taken_16 (by decide), ?_⟩
  refine List.forall_mem_cons.mpr ⟨ok_iadd F dX5_taken_19 (by decide), ?_⟩
  refine List.forall_mem_cons.mpr ⟨ok_istore_n F dX5_taken_20 rfl (by decide) (by decide), ?_⟩
  refine List.forall_mem_cons.mpr ⟨ok_iinc F dX5_taken_21 (by decide) (by decide) (by decide), ?_⟩
  refine List.forall_mem_cons.mpr ⟨ok_goto F dX5_taken_24 (by decide) (by decide) (by decide), ?_⟩
  refine List.forall_mem_cons.mpr ⟨ok_iload_n F dX5_taken_27 rfl (by decide), ?_⟩
  refine List.forall_mem_cons.mpr ⟨ok_iret F G dX5_taken_28 (by decide), ?_⟩
  exact fun _ h => absurd h List.not_mem_nil
set_option maxRecDepth 100000 in
theorem w_X5_taken : (∀ (K : Kt ZT) (n : Nat) (L : xL) (st : List Value) (S : ZT), nx cod_X5_taken cut_X5_taken K (n + 1) 0 L st S = (O_int 0 1) (nx cod_X5_taken cut_X5_taken K n) 0 L st S) ∧
  (∀ (K : Kt ZT) (n : Nat) (L : xL) (st : List Value) (S : ZT), nx cod_X5_taken cut_X5_taken K (n + 1) 1 L st S = (O_istore 2 1) (nx cod_X5_taken cut_X5_taken K n) 1 L st S) ∧
  (∀ (K : Kt ZT) (n : Nat) (L : xL) (st : List Value) (S : ZT), nx cod_X5_taken cut_X5_taken K (n + 1) 2 L st S = (O_int 0 1) (nx cod_X5_taken cut_X5_taken K n) 2 L st S) ∧
  (∀ (K : Kt ZT) (n : Nat) (L : xL) (st : List Value) (S : ZT), nx cod_X5_taken cut_X5_taken K (n + 1) 3 L st S = (O_istore 3 1) (nx cod_X5_taken cut_X5_taken K n) 3 L st S) ∧
  (∀ (K : Kt ZT) (n : Nat) (L : xL) (st : List Value) (S : ZT), nx cod_X5_taken cut_X5_taken K (n + 1) 4 L st S = K 4 L st S) ∧
  (∀ (K : Kt ZT) (n : Nat) (L : xL) (st : List Value) (S : ZT), nx1 cod_X5_taken cut_X5_taken K n 4 L st S = (O_iload 3 1) (nx cod_X5_taken cut_X5_taken K n) 4 L st S) ∧
  (∀ (K : Kt ZT) (n : Nat) (L : xL) (st : List Value) (S : ZT), nx cod_X5_taken cut_X5_taken K (n + 1) 5 L st S = (O_aload 0 1) (nx cod_X5_taken cut_X5_taken K n) 5 L st S) ∧
  (∀ (K : Kt ZT) (n : Nat) (L : xL) (st : List Value) (S : ZT), nx cod_X5_taken cut_X5_taken K (n + 1) 6 L st S = (O_getf zW 5 2) (nx cod_X5_taken cut_X5_taken K n) 6 L st S) ∧
  (∀ (K : Kt ZT) (n : Nat) (L : xL) (st : List Value) (S : ZT), nx cod_X5_taken cut_X5_taken K (n + 1) 9 L st S = (O_icmp_ge 27) (nx cod_X5_taken cut_X5_taken K n) 9 L st S) ∧
  (∀ (K : Kt ZT) (n : Nat) (L : xL) (st : List Value) (S : ZT), nx cod_X5_taken cut_X5_taken K (n + 1) 12 L st S = (O_iload 2 1) (nx cod_X5_taken cut_X5_taken K n) 12 L st S) ∧
  (∀ (K : Kt ZT) (n : Nat) (L : xL) (st : List Value) (S : ZT), nx cod_X5_taken cut_X5_taken K (n + 1) 13 L st S = (O_aload 0 1) (nx cod_X5_taken cut_X5_taken K n) 13 L st S) ∧
  (∀ (K : Kt ZT) (n : Nat) (L : xL) (st : List Value) (S : ZT), nx cod_X5_taken cut_X5_taken K (n + 1) 14 L st S = (O_iload 3 1) (nx cod_X5_taken cut_X5_taken K n) 14 L st S) ∧
  (∀ (K : Kt ZT) (n : Nat) (L : xL) (st : List Value) (S : ZT), nx cod_X5_taken cut_X5_taken K (n + 1) 15 L st S = (O_iload 1 1) (nx cod_X5_taken cut_X5_taken K n) 15 L st S) ∧
  (∀ (K : Kt ZT) (n : Nat) (L : xL) (st : List Value) (S : ZT), nx cod_X5_taken cut_X5_taken K (n + 1) 16 L st S = (O_callV 2 0 (fun S => S) (fun _ S' => S') sp_X5_takenBy) (nx cod_X5_taken cut_X5_taken K n) 16 L st S) ∧
  (∀ (K : Kt ZT) (n : Nat) (L : xL) (st : List Value) (S : ZT), nx cod_X5_taken cut_X5_taken K (n + 1) 19 L st S = (O_iadd) (nx cod_X5_taken cut_X5_taken K n) 19 L st S) ∧
  (∀ (K : Kt ZT) (n : Nat) (L : xL) (st : List Value) (S : ZT), nx cod_X5_taken cut_X5_taken K (n + 1) 20 L st S = (O_istore 2 1) (nx cod_X5_taken cut_X5_taken K n) 20 L st S) ∧
  (∀ (K : Kt ZT) (n : Nat) (L : xL) (st : List Value) (S : ZT), nx cod_X5_taken cut_X5_taken K (n + 1) 21 L st S = (O_iinc 3 1) (nx cod_X5_taken cut_X5_taken K n) 21 L st S) ∧
  (∀ (K : Kt ZT) (n : Nat) (L : xL) (st : List Value) (S : ZT), nx cod_X5_taken cut_X5_taken K (n + 1) 24 L st S = (O_goto 4) (nx cod_X5_taken cut_X5_taken K n) 24 L st S) ∧
  (∀ (K : Kt ZT) (n : Nat) (L : xL) (st : List Value) (S : ZT), nx cod_X5_taken cut_X5_taken K (n + 1) 27 L st S = (O_iload 2 1) (nx cod_X5_taken cut_X5_taken K n) 27 L st S) ∧
  (∀ (K : Kt ZT) (n : Nat) (L : xL) (st : List Value) (S : ZT), nx cod_X5_taken cut_X5_taken K (n + 1) 28 L st S = (O_iret) (nx cod_X5_taken cut_X5_taken K n) 28 L st S) ∧
  (∀ (K : Kt ZT) (n : Nat) (L : xL) (st : List Value) (S : ZT), nx cod_X5_taken cut_X5_taken K (n + 1) 100000 L st S = K 100000 L st S) := by
  repeat' apply And.intro
  all_goals (intros; rfl)
set_option maxRecDepth 100000 in
theorem mk_X5_taken {P P' : ZT} {r : Option Value} {p0 : Int32} (body : ∀ E : En, CodOk E zW cod_X5_taken → Gd E zW 100000 [] r.toList P' → Gd E zW 0 [some (.ref 0), some (.int p0), none, none] [] P) : Con yX5_taken cX5_taken 4 (some .int) 1 zW [.ref 0, .int p0] P r P' :=
  Con.of (by decide) rfl rfl (Nat.le_of_ble_eq_true rfl) (fun E F G hr => body E (okc_X5_taken F G) hr)
theorem con_X5_taken (S : ZT) (p : Int32) (hp : S.ok) : Con yX5_taken cX5_taken 4 (some .int) 1 zW [.ref 0, .int p] S (some (.int (S.taken p))) (S) := by
  refine mk_X5_taken (fun E C hr => ?_)
  (refine nx_ok C (cuts := cut_X5_taken) 1000 _ _ _ _ ?_; simp only [w_X5_taken, ops_eq, xst_eq, call_eq, oK_eq, Option.toList_some, Option.toList_none, List.cons_append, List.nil_append, List.length_cons, List.length_nil, true_and, and_true, Nat.reduceAdd, zW_F, zW_A, zW_S, zW_P, ZT_gs, se_X5_takenBy])
  refine it_up (f := fun z r => r + S.takes z p) (n := S.n) (fun _ _ => True) (fun i r => Gd E zW 4 [some (.ref 0), some (.int p), some (.int r), some (.int (nI i))] [] S) trivial (fun _ _ _ _ => trivial) (fun i r hi _ hn => ?_) ?_
  · have hx := ixs hp.1 hi
    (refine nx1_ok C cut_X5_taken 1000 ?_; simp only [w_X5_taken, ops_eq, xst_eq, call_eq, oK_eq, Option.toList_some, Option.toList_none, List.cons_append, List.nil_append, List.length_cons, List.length_nil, true_and, and_true, Nat.reduceAdd, zW_F, zW_A, zW_S, zW_P, ZT_gs, se_X5_takenBy, hx])
    ((repeat' (with_reducible first | apply And.intro | intro _)) <;> simp_all [ZT_gs])
  · have hx := ixe hp.1
    (refine nx1_ok C cut_X5_taken 1000 ?_; simp only [w_X5_taken, ops_eq, xst_eq, call_eq, oK_eq, Option.toList_some, Option.toList_none, List.cons_append, List.nil_append, List.length_cons, List.length_nil, true_and, and_true, Nat.reduceAdd, zW_F, zW_A, zW_S, zW_P, ZT_gs, se_X5_takenBy, hx])
    ((repeat' (with_reducible first | apply And.intro | intro _)) <;> simp_all [ZT.taken, ZT_gs])
def sp_X5_taken : Sp ZT := fun av S K => match av with
  | [.ref 0, .int p] => (S.ok) ∧ K (some (.int (S.taken p))) (S)
  | _ => False
theorem se_X5_taken (p : Int32) (S : ZT) (K : Option Value → ZT → Prop) : sp_X5_taken [.ref 0, .int p] S K = ((S.ok) ∧ K (some (.int (S.taken p))) (S)) := rfl
theorem spok_X5_taken : SpOk yX5_taken cX5_taken 4 (some .int) 1 zW sp_X5_taken := by
  intro av S K h
  unfold sp_X5_taken at h
  split at h
  · rename_i p; exact ⟨some (.int (S.taken p)), S, trivial, con_X5_taken S p h.1, h.2⟩
  · exact h.elim
def ZT.kp (m : Int32) (i : Nat) (T : ZT) : ZT := if T.has (T.pzones i) = false then T else if T.opening i = m then T.sIsOpen (upd T.isOpen (T.pzones i).toNatClampNeg 1) else if T.closing i = m then T.sIsOpen (upd T.isOpen (T.pzones i).toNatClampNeg 0) else T
def ZT.keep (S : ZT) (m : Int32) : ZT := it (ZT.kp m) S S.m
/-- the same sizes -/
def ZT.like (S T : ZT) : Prop := T.size = S.size ∧ T.programmes = S.programmes
theorem ZT.ok_of {S T : ZT} (h : S.ok) (e : S.like T) : T.ok ∧ T.n = S.n ∧ T.m = S.m := by
  unfold ZT.ok ZT.n ZT.m at *
  rw [e.1, e.2]
  exact ⟨h, rfl, rfl⟩
theorem ZT.kp_like {S T : ZT} {m : Int32} {i : Nat} (h : S.like T) : S.like (ZT.kp m i T) := by
  unfold ZT.kp
  split
  · exact h
  · split
    · exact h
    · split <;> exact h
def cod_X5_keepProgrammes : List (Nat × Op ZT) := [(0, O_int 0 1), (1, O_istore 2 1), (2, O_iload 2 1), (3, O_aload 0 1), (4, O_getf zW 5 6), (7, O_icmp_ge 71), (10, O_aload 0 1), (11, O_getf zW 5 3), (14, O_iload 2 1), (15, O_ald zW 0), (16, O_istore 3 1), (17, O_aload 0 1), (18, O_iload 3 1), (19, O_callV 1 0 (fun S => S) (fun _ S' => S') sp_X5_has), (22, O_if_ne 28), (25, O_goto 65), (28, O_aload 0 1), (29, O_getf zW 5 4), (32, O_iload 2 1), (33, O_ald zW 0), (34, O_iload 1 1), (35, O_icmp_ne 48), (38, O_aload 0 1), (39, O_getf zW 5 1), (42, O_iload 3 1), (43, O_int 1 1), (44, O_ast zW 1 zW_sa), (45, O_goto 65), (48, O_aload 0 1), (49, O_getf zW 5 5), (52, O_iload 2 1), (53, O_ald zW 0), (54, O_iload 1 1), (55, O_icmp_ne 65), (58, O_aload 0 1), (59, O_getf zW 5 1), (62, O_iload 3 1), (63, O_int 0 1), (64, O_ast zW 1 zW_sa), (65, O_iinc 2 1), (68, O_goto 2), (71, O_vret)]
abbrev cut_X5_keepProgrammes : List Nat := [2]
set_option maxRecDepth 100000 in
theorem okc_X5_keepProgrammes {E : En} (F : Fx E RX5 cX5_keepProgrammes 4 1) (G : Fr E none) : CodOk E zW cod_X5_keepProgrammes := by
  unfold CodOk cod_X5_keepProgrammes
  refine List.forall_mem_cons.mpr ⟨ok_iconst F dX5_keepProgrammes_0 (by decide) (by decide), ?_⟩
  refine List.forall_mem_cons.mpr ⟨ok_istore_n F dX5_keepProgrammes_1 rfl (by decide) (by decide), ?_⟩
  refine List.forall_mem_cons.mpr ⟨ok_iload_n F dX5_keepProgrammes_2 rfl (by decide), ?_⟩
  refine List.forall_mem_cons.mpr ⟨ok_aload_n F dX5_keepProgrammes_3 rfl (by decide), ?_⟩
  refine List.forall_mem_cons.mpr ⟨ok_getf F flX5_38 dX5_keepProgrammes_4 (by decide), ?_⟩
  refine List.forall_mem_cons.mpr ⟨ok_icmp_ge F dX5_keepProgrammes_7 (by decide) (by decide) (by decide), ?_⟩
  refine List.forall_mem_cons.mpr ⟨ok_aload_n F dX5_keepProgrammes_10 rfl (by decide), ?_⟩
  refine List.forall_mem_cons.mpr ⟨ok_getf F flX5_19 dX5_keepProgrammes_11 (by decide), ?_⟩
  refine List.forall_mem_cons.mpr ⟨ok_iload_n F dX5_keepProgrammes_14 rfl (by decide), ?_⟩
  refine List.forall_mem_cons.mpr ⟨ok_iald F dX5_keepProgrammes_15 (by decide), ?_⟩
  refine List.forall_mem_cons.mpr ⟨ok_istore_n F dX5_keepProgrammes_16 rfl (by decide) (by decide), ?_⟩
  refine List.forall_mem_cons.mpr ⟨ok_aload_n F dX5_keepProgrammes_17 rfl (by decide), ?_⟩
  refine List.forall_mem_cons.mpr ⟨ok_iload_n F dX5_keepProgrammes_18 rfl (by decide), ?_⟩
  refine List.forall_mem_cons.mpr ⟨ok_callV F spok_X5_has (ln_id zW) rcv_zW (by decide +kernel) (by decide) dX5_keepProgrammes_19 (by decide), ?_⟩
  refine List.forall_mem_cons.mpr ⟨ok_if_ne F dX5_keepProgrammes_22 (by decide) (by decide) (by decide), ?_⟩
  refine List.forall_mem_cons.mpr ⟨ok_goto F dX5_keepProgrammes_25 (by decide) (by decide) (by decide), ?_⟩
  refine List.forall_mem_cons.mpr ⟨ok_aload_n F dX5_keepProgrammes_28 rfl (by decide), ?_⟩
  refine List.forall_mem_cons.mpr ⟨ok_getf F flX5_22 dX5_keepProgrammes_29 (by decide), ?_⟩
  refine List.forall_mem_cons.mpr ⟨ok_iload_n F dX5_keepProgrammes_32 rfl (by decide), ?_⟩
  refine List.forall_mem_cons.mpr ⟨ok_iald F dX5_keepProgrammes_33 (by decide), ?_⟩
  refine List.forall_mem_cons.mpr ⟨ok_iload_n F dX5_keepProgrammes_34 rfl (by decide), ?_⟩
  refine List.forall_mem_cons.mpr ⟨ok_icmp_ne F dX5_keepProgrammes_35 (by decide) (by decide) (by decide), ?_⟩
  refine List.forall_mem_cons.mpr ⟨ok_aload_n F dX5_keepProgrammes_38 rfl (by decide), ?_⟩
  refine List.forall_mem_cons.mpr ⟨ok_getf F flX5_15 dX5_keepProgrammes_39 (by decide), ?_⟩
  refine List.forall_mem_cons.mpr ⟨ok_iload_n F dX5_keepProgrammes_42 rfl (by decide), ?_⟩
  refine List.forall_mem_cons.mpr ⟨ok_iconst F dX5_keepProgrammes_43 (by decide) (by decide), ?_⟩
  refine List.forall_mem_cons.mpr ⟨ok_zast F zW_sar dX5_keepProgrammes_44 (by decide), ?_⟩
  refine List.forall_mem_cons.mpr ⟨ok_goto F dX5_keepProgrammes_45 (by decide) (by decide) (by decide), ?_⟩
  refine List.forall_mem_cons.mpr ⟨ok_aload_n F dX5_keepProgrammes_48 rfl (by decide), ?_⟩
  refine List.forall_mem_cons.mpr ⟨ok_getf F flX5_25 dX5_keepProgrammes_49 (by decide), ?_⟩
  refine List.forall_mem_cons.mpr ⟨ok_iload_n F dX5_keepProgrammes_52 rfl (by decide), ?_⟩
  refine List.forall_mem_cons.mpr ⟨ok_iald F dX5_keepProgrammes_53 (by decide), ?_⟩
  refine List.forall_mem_cons.mpr ⟨ok_iload_n F dX5_keepProgrammes_54 rfl (by decide), ?_⟩
  refine List.forall_mem_cons.mpr ⟨ok_icmp_ne F dX5_keepProgrammes_55 (by decide) (by decide) (by decide), ?_⟩
  refine List.forall_mem_cons.mpr ⟨ok_aload_n F dX5_keepProgrammes_58 rfl (by decide), ?_⟩
  refine List.forall_mem_cons.mpr ⟨ok_getf F flX5_15 dX5_keepProgrammes_59 (by decide), ?_⟩
  refine List.forall_mem_cons.mpr ⟨ok_iload_n F dX5_keepProgrammes_62 rfl (by decide), ?_⟩
  refine List.forall_mem_cons.mpr ⟨ok_iconst F dX5_keepProgrammes_63 (by decide) (by decide), ?_⟩
  refine List.forall_mem_cons.mpr ⟨ok_zast F zW_sar dX5_keepProgrammes_64 (by decide), ?_⟩
  refine List.forall_mem_cons.mpr ⟨ok_iinc F dX5_keepProgrammes_65 (by decide) (by decide) (by decide), ?_⟩
  refine List.forall_mem_cons.mpr ⟨ok_goto F dX5_keepProgrammes_68 (by decide) (by decide) (by decide), ?_⟩
  refine List.forall_mem_cons.mpr ⟨ok_vret F G dX5_keepProgrammes_71 (by decide), ?_⟩
  exact fun _ h => absurd h List.not_mem_nil
set_option maxRecDepth 100000 in
theorem w_X5_keepProgrammes : (∀ (K : Kt ZT) (n : Nat) (L : xL) (st : List Value) (S : ZT), nx cod_X5_keepProgrammes cut_X5_keepProgrammes K (n + 1) 0 L st S = (O_int 0 1) (nx cod_X5_keepProgrammes cut_X5_keepProgrammes K n) 0 L st S) ∧
  (∀ (K : Kt ZT) (n : Nat) (L : xL) (st : List Value) (S : ZT), nx cod_X5_keepProgrammes cut_X5_keepProgrammes K (n + 1) 1 L st S = (O_istore 2 1) (nx cod_X5_keepProgrammes cut_X5_keepProgrammes K n) 1 L st S) ∧
  (∀ (K : Kt ZT) (n : Nat) (L : xL) (st : List Value) (S : ZT), nx cod_X5_keepProgrammes cut_X5_keepProgrammes K (n + 1) 2 L st S = K 2 L st S) ∧
  (∀ (K : Kt ZT) (n : Nat) (L : xL) (st : List Value) (S : ZT), nx1 cod_X5_keepProgrammes cut_X5_keepProgrammes K n 2 L st S = (O_iload 2 1) (nx cod_X5_keepProgrammes cut_X5_keepProgrammes K n) 2 L st S) ∧
  (∀ (K : Kt ZT) (n : Nat) (L : xL) (st : List Value) (S : ZT), nx cod_X5_keepProgrammes cut_X5_keepProgrammes K (n + 1) 3 L st S = (O_aload 0 1) (nx cod_X5_keepProgrammes cut_X5_keepProgrammes K n) 3 L st S) ∧
  (∀ (K : Kt ZT) (n : Nat) (L : xL) (st : List Value) (S : ZT), nx cod_X5_keepProgrammes cut_X5_keepProgrammes K (n + 1) 4 L st S = (O_getf zW 5 6) (nx cod_X5_keepProgrammes cut_X5_keepProgrammes K n) 4 L st S) ∧
  (∀ (K : Kt ZT) (n : Nat) (L : xL) (st : List Value) (S : ZT), nx cod_X5_keepProgrammes cut_X5_keepProgrammes K (n + 1) 7 L st S = (O_icmp_ge 71) (nx cod_X5_keepProgrammes cut_X5_keepProgrammes K n) 7 L st S) ∧
  (∀ (K : Kt ZT) (n : Nat) (L : xL) (st : List Value) (S : ZT), nx cod_X5_keepProgrammes cut_X5_keepProgrammes K (n + 1) 10 L st S = (O_aload 0 1) (nx cod_X5_keepProgrammes cut_X5_keepProgrammes K n) 10 L st S) ∧
  (∀ (K : Kt ZT) (n : Nat) (L : xL) (st : List Value) (S : ZT), nx cod_X5_keepProgrammes cut_X5_keepProgrammes K (n + 1) 11 L st S = (O_getf zW 5 3) (nx cod_X5_keepProgrammes cut_X5_keepProgrammes K n) 11 L st S) ∧
  (∀ (K : Kt ZT) (n : Nat) (L : xL) (st : List Value) (S : ZT), nx cod_X5_keepProgrammes cut_X5_keepProgrammes K (n + 1) 14 L st S = (O_iload 2 1) (nx cod_X5_keepProgrammes cut_X5_keepProgrammes K n) 14 L st S) ∧
  (∀ (K : Kt ZT) (n : Nat) (L : xL) (st : List Value) (S : ZT), nx cod_X5_keepProgrammes cut_X5_keepProgrammes K (n + 1) 15 L st S = (O_ald zW 0) (nx cod_X5_keepProgrammes cut_X5_keepProgrammes K n) 15 L st S) ∧
  (∀ (K : Kt ZT) (n : Nat) (L : xL) (st : List Value) (S : ZT), nx cod_X5_keepProgrammes cut_X5_keepProgrammes K (n + 1) 16 L st S = (O_istore 3 1) (nx cod_X5_keepProgrammes cut_X5_keepProgrammes K n) 16 L st S) ∧
  (∀ (K : Kt ZT) (n : Nat) (L : xL) (st : List Value) (S : ZT), nx cod_X5_keepProgrammes cut_X5_keepProgrammes K (n + 1) 17 L st S = (O_aload 0 1) (nx cod_X5_keepProgrammes cut_X5_keepProgrammes K n) 17 L st S) ∧
  (∀ (K : Kt ZT) (n : Nat) (L : xL) (st : List Value) (S : ZT), nx cod_X5_keepProgrammes cut_X5_keepProgrammes K (n + 1) 18 L st S = (O_iload 3 1) (nx cod_X5_keepProgrammes cut_X5_keepProgrammes K n) 18 L st S) ∧
  (∀ (K : Kt ZT) (n : Nat) (L : xL) (st : List Value) (S : ZT), nx cod_X5_keepProgrammes cut_X5_keepProgrammes K (n + 1) 19 L st S = (O_callV 1 0 (fun S => S) (fun _ S' => S') sp_X5_has) (nx cod_X5_keepProgrammes cut_X5_keepProgrammes K n) 19 L st S) ∧
  (∀ (K : Kt ZT) (n : Nat) (L : xL) (st : List Value) (S : ZT), nx cod_X5_keepProgrammes cut_X5_keepProgrammes K (n + 1) 22 L st S = (O_if_ne 28) (nx cod_X5_keepProgrammes cut_X5_keepProgrammes K n) 22 L st S) ∧
  (∀ (K : Kt ZT) (n : Nat) (L : xL) (st : List Value) (S : ZT), nx cod_X5_keepProgrammes cut_X5_keepProgrammes K (n + 1) 25 L st S = (O_goto 65) (nx cod_X5_keepProgrammes cut_X5_keepProgrammes K n) 25 L st S) ∧
  (∀ (K : Kt ZT) (n : Nat) (L : xL) (st : List Value) (S : ZT), nx cod_X5_keepProgrammes cut_X5_keepProgrammes K (n + 1) 28 L st S = (O_aload 0 1) (nx cod_X5_keepProgrammes cut_X5_keepProgrammes K n) 28 L st S) ∧
  (∀ (K : Kt ZT) (n : Nat) (L : xL) (st : List Value) (S : ZT), nx cod_X5_keepProgrammes cut_X5_keepProgrammes K (n + 1) 29 L st S = (O_getf zW 5 4) (nx cod_X5_keepProgrammes cut_X5_keepProgrammes K n) 29 L st S) ∧
  (∀ (K : Kt ZT) (n : Nat) (L : xL) (st : List Value) (S : ZT), nx cod_X5_keepProgrammes cut_X5_keepProgrammes K (n + 1) 32 L st S = (O_iload 2 1) (nx cod_X5_keepProgrammes cut_X5_keepProgrammes K n) 32 L st S) ∧
  (∀ (K : Kt ZT) (n : Nat) (L : xL) (st : List Value) (S : ZT), nx cod_X5_keepProgrammes cut_X5_keepProgrammes K (n + 1) 33 L st S = (O_ald zW 0) (nx cod_X5_keepProgrammes cut_X5_keepProgrammes K n) 33 L st S) ∧
  (∀ (K : Kt ZT) (n : Nat) (L : xL) (st : List Value) (S : ZT), nx cod_X5_keepProgrammes cut_X5_keepProgrammes K (n + 1) 34 L st S = (O_iload 1 1) (nx cod_X5_keepProgrammes cut_X5_keepProgrammes K n) 34 L st S) ∧
  (∀ (K : Kt ZT) (n : Nat) (L : xL) (st : List Value) (S : ZT), nx cod_X5_keepProgrammes cut_X5_keepProgrammes K (n + 1) 35 L st S = (O_icmp_ne 48) (nx cod_X5_keepProgrammes cut_X5_keepProgrammes K n) 35 L st S) ∧
  (∀ (K : Kt ZT) (n : Nat) (L : xL) (st : List Value) (S : ZT), nx cod_X5_keepProgrammes cut_X5_keepProgrammes K (n + 1) 38 L st S = (O_aload 0 1) (nx cod_X5_keepProgrammes cut_X5_keepProgrammes K n) 38 L st S) ∧
  (∀ (K : Kt ZT) (n : Nat) (L : xL) (st : List Value) (S : ZT), nx cod_X5_keepProgrammes cut_X5_keepProgrammes K (n + 1) 39 L st S = (O_getf zW 5 1) (nx cod_X5_keepProgrammes cut_X5_keepProgrammes K n) 39 L st S) ∧
  (∀ (K : Kt ZT) (n : Nat) (L : xL) (st : List Value) (S : ZT), nx cod_X5_keepProgrammes cut_X5_keepProgrammes K (n + 1) 42 L st S = (O_iload 3 1) (nx cod_X5_keepProgrammes cut_X5_keepProgrammes K n) 42 L st S) ∧
  (∀ (K : Kt ZT) (n : Nat) (L : xL) (st : List Value) (S : ZT), nx cod_X5_keepProgrammes cut_X5_keepProgrammes K (n + 1) 43 L st S = (O_int 1 1) (nx cod_X5_keepProgrammes cut_X5_keepProgrammes K n) 43 L st S) ∧
  (∀ (K : Kt ZT) (n : Nat) (L : xL) (st : List Value) (S : ZT), nx cod_X5_keepProgrammes cut_X5_keepProgrammes K (n + 1) 44 L st S = (O_ast zW 1 zW_sa) (nx cod_X5_keepProgrammes cut_X5_keepProgrammes K n) 44 L st S) ∧
  (∀ (K : Kt ZT) (n : Nat) (L : xL) (st : List Value) (S : ZT), nx cod_X5_keepProgrammes cut_X5_keepProgrammes K (n + 1) 45 L st S = (O_goto 65) (nx cod_X5_keepProgrammes cut_X5_keepProgrammes K n) 45 L st S) ∧
  (∀ (K : Kt ZT) (n : Nat) (L : xL) (st : List Value) (S : ZT), nx cod_X5_keepProgrammes cut_X5_keepProgrammes K (n + 1) 48 L st S = (O_aload 0 1) (nx cod_X5_keepProgrammes cut_X5_keepProgrammes K n) 48 L st S) ∧
  (∀ (K : Kt ZT) (n : Nat) (L : xL) (st : List Value) (S : ZT), nx cod_X5_keepProgrammes cut_X5_keepProgrammes K (n + 1) 49 L st S = (O_getf zW 5 5) (nx cod_X5_keepProgrammes cut_X5_keepProgrammes K n) 49 L st S) ∧
  (∀ (K : Kt ZT) (n : Nat) (L : xL) (st : List Value) (S : ZT), nx cod_X5_keepProgrammes cut_X5_keepProgrammes K (n + 1) 52 L st S = (O_iload 2 1) (nx cod_X5_keepProgrammes cut_X5_keepProgrammes K n) 52 L st S) ∧
  (∀ (K : Kt ZT) (n : Nat) (L : xL) (st : List Value) (S : ZT), nx cod_X5_keepProgrammes cut_X5_keepProgrammes K (n + 1) 53 L st S = (O_ald zW 0) (nx cod_X5_keepProgrammes cut_X5_keepProgrammes K n) 53 L st S) ∧
  (∀ (K : Kt ZT) (n : Nat) (L : xL) (st : List Value) (S : ZT), nx cod_X5_keepProgrammes cut_X5_keepProgrammes K (n + 1) 54 L st S = (O_iload 1 1) (nx cod_X5_keepProgrammes cut_X5_keepProgrammes K n) 54 L st S) ∧
  (∀ (K : Kt ZT) (n : Nat) (L : xL) (st : List Value) (S : ZT), nx cod_X5_keepProgrammes cut_X5_keepProgrammes K (n + 1) 55 L st S = (O_icmp_ne 65) (nx cod_X5_keepProgrammes cut_X5_keepProgrammes K n) 55 L st S) ∧
  (∀ (K : Kt ZT) (n : Nat) (L : xL) (st : List Value) (S : ZT), nx cod_X5_keepProgrammes cut_X5_keepProgrammes K (n + 1) 58 L st S = (O_aload 0 1) (nx cod_X5_keepProgrammes cut_X5_keepProgrammes K n) 58 L st S) ∧
  (∀ (K : Kt ZT) (n : Nat) (L : xL) (st : List Value) (S : ZT), nx cod_X5_keepProgrammes cut_X5_keepProgrammes K (n + 1) 59 L st S = (O_getf zW 5 1) (nx cod_X5_keepProgrammes cut_X5_keepProgrammes K n) 59 L st S) ∧
  (∀ (K : Kt ZT) (n : Nat) (L : xL) (st : List Value) (S : ZT), nx cod_X5_keepProgrammes cut_X5_keepProgrammes K (n + 1) 62 L st S = (O_iload 3 1) (nx cod_X5_keepProgrammes cut_X5_keepProgrammes K n) 62 L st S) ∧
  (∀ (K : Kt ZT) (n : Nat) (L : xL) (st : List Value) (S : ZT), nx cod_X5_keepProgrammes cut_X5_keepProgrammes K (n + 1) 63 L st S = (O_int 0 1) (nx cod_X5_keepProgrammes cut_X5_keepProgrammes K n) 63 L st S) ∧
  (∀ (K : Kt ZT) (n : Nat) (L : xL) (st : List Value) (S : ZT), nx cod_X5_keepProgrammes cut_X5_keepProgrammes K (n + 1) 64 L st S = (O_ast zW 1 zW_sa) (nx cod_X5_keepProgrammes cut_X5_keepProgrammes K n) 64 L st S) ∧
  (∀ (K : Kt ZT) (n : Nat) (L : xL) (st : List Value) (S : ZT), nx cod_X5_keepProgrammes cut_X5_keepProgrammes K (n + 1) 65 L st S = (O_iinc 2 1) (nx cod_X5_keepProgrammes cut_X5_keepProgrammes K n) 65 L st S) ∧
  (∀ (K : Kt ZT) (n : Nat) (L : xL) (st : List Value) (S : ZT), nx cod_X5_keepProgrammes cut_X5_keepProgrammes K (n + 1) 68 L st S = (O_goto 2) (nx cod_X5_keepProgrammes cut_X5_keepProgrammes K n) 68 L st S) ∧
  (∀ (K : Kt ZT) (n : Nat) (L : xL) (st : List Value) (S : ZT), nx cod_X5_keepProgrammes cut_X5_keepProgrammes K (n + 1) 71 L st S = (O_vret) (nx cod_X5_keepProgrammes cut_X5_keepProgrammes K n) 71 L st S) ∧
  (∀ (K : Kt ZT) (n : Nat) (L : xL) (st : List Value) (S : ZT), nx cod_X5_keepProgrammes cut_X5_keepProgrammes K (n + 1) 100000 L st S = K 100000 L st S) := by
  repeat' apply And.intro
  all_goals (intros; rfl)
set_option maxRecDepth 100000 in
theorem mk_X5_keepProgrammes {P P' : ZT} {r : Option Value} {p0 : Int32} (body : ∀ E : En, CodOk E zW cod_X5_keepProgrammes → Gd E zW 100000 [] r.toList P' → Gd E zW 0 [some (.ref 0), some (.int p0), none, none] [] P) : Con yX5_keepProgrammes cX5_keepProgrammes 4 none 1 zW [.ref 0, .int p0] P r P' :=
  Con.of (by decide) rfl rfl (Nat.le_of_ble_eq_true rfl) (fun E F G hr => body E (okc_X5_keepProgrammes F G) hr)
theorem con_X5_keepProgrammes (S : ZT) (m : Int32) (hp : S.ok) : Con yX5_keepProgrammes cX5_keepProgrammes 4 none 1 zW [.ref 0, .int m] S (none) (S.keep m) := by
  refine mk_X5_keepProgrammes (fun E C hr => ?_)
  (refine nx_ok C (cuts := cut_X5_keepProgrammes) 1000 _ _ _ _ ?_; simp only [w_X5_keepProgrammes, ops_eq, xst_eq, call_eq, oK_eq, Option.toList_some, Option.toList_none, List.cons_append, List.nil_append, List.length_cons, List.length_nil, true_and, and_true, Nat.reduceAdd, zW_F, zW_A, zW_S, zW_P, ZT_gs, se_X5_has])
  have key : ∀ q : Option Value, Gd E zW 2 [some (.ref 0), some (.int m), some (.int (nI 0)), q] [] S := by
    refine it_up (f := ZT.kp m) (n := S.m) (fun _ T => S.like T) (fun i T => ∀ q : Option Value, Gd E zW 2 [some (.ref 0), some (.int m), some (.int (nI i)), q] [] T) ⟨rfl, rfl⟩ (fun i T hi hT => ZT.kp_like hT) (fun i T hi hT hn q => ?_) (fun q => ?_)
    · have hx := ixs hp.2 hi
      have hv : T.has (T.pzones i) = true → vp_in (T.pzones i) 8 := ZT.has_in (ZT.ok_of hp hT).1
      have hT2 := hT.2
      (refine nx1_ok C cut_X5_keepProgrammes 1000 ?_; simp only [w_X5_keepProgrammes, ops_eq, xst_eq, call_eq, oK_eq, Option.toList_some, Option.toList_none, List.cons_append, List.nil_append, List.length_cons, List.length_nil, true_and, and_true, Nat.reduceAdd, zW_F, zW_A, zW_S, zW_P, ZT_gs, se_X5_has, hx, hT2, bI_eq, show xnar 1 1 = 1 from rfl, show xnar 1 0 = 0 from rfl])
      ((repeat' (with_reducible first | apply And.intro | intro _)) <;> simp_all [ZT.kp, ZT_gs])
    · have hx := ixe hp.2
      have hT : S.like (it (ZT.kp m) S S.m) := it_inv (fun _ T => S.like T) ⟨rfl, rfl⟩ (fun i T hi hT => ZT.kp_like hT)
      have hT2 := hT.2
      (refine nx1_ok C cut_X5_keepProgrammes 1000 ?_; simp only [w_X5_keepProgrammes, ops_eq, xst_eq, call_eq, oK_eq, Option.toList_some, Option.toList_none, List.cons_append, List.nil_append, List.length_cons, List.length_nil, true_and, and_true, Nat.reduceAdd, zW_F, zW_A, zW_S, zW_P, ZT_gs, se_X5_has, hx, hT2])
      ((repeat' (with_reducible first | apply And.intro | intro _)) <;> simp_all [ZT.keep, ZT_gs])
  exact key none
def sp_X5_keepProgrammes : Sp ZT := fun av S K => match av with
  | [.ref 0, .int m] => (S.ok) ∧ K (none) (S.keep m)
  | _ => False
theorem se_X5_keepProgrammes (m : Int32) (S : ZT) (K : Option Value → ZT → Prop) : sp_X5_keepProgrammes [.ref 0, .int m] S K = ((S.ok) ∧ K (none) (S.keep m)) := rfl
theorem spok_X5_keepProgrammes : SpOk yX5_keepProgrammes cX5_keepProgrammes 4 none 1 zW sp_X5_keepProgrammes := by
  intro av S K h
  unfold sp_X5_keepProgrammes at h
  split at h
  · rename_i m; exact ⟨none, S.keep m, trivial, con_X5_keepProgrammes S m h.1, h.2⟩
  · exact h.elim
def cod_X5_copyFrom : List (Nat × Op (ZT × ZT)) := [(0, O_aload 1 1), (1, O_getf zW2 5 0), (4, O_int 0 1), (5, O_aload 0 1), (6, O_getf zW2 5 0), (9, O_int 0 1), (10, O_int 8 2), (12, O_acopy zW2 zW2_sa), (15, O_aload 1 1), (16, O_getf zW2 5 1), (19, O_int 0 1), (20, O_aload 0 1), (21, O_getf zW2 5 1), (24, O_int 0 1), (25, O_int 8 2), (27, O_acopy zW2 zW2_sa), (30, O_aload 0 1), (31, O_aload 1 1), (32, O_getf zW2 5 2), (35, O_puti zW2_p5_2), (38, O_aload 1 1), (39, O_getf zW2 5 3), (42, O_int 0 1), (43, O_aload 0 1), (44, O_getf zW2 5 3), (47, O_int 0 1), (48, O_int 8 2), (50, O_acopy zW2 zW2_sa), (53, O_aload 1 1), (54, O_getf zW2 5 4), (57, O_int 0 1), (58, O_aload 0 1), (59, O_getf zW2 5 4), (62, O_int 0 1), (63, O_int 8 2), (65, O_acopy zW2 zW2_sa), (68, O_aload 1 1), (69, O_getf zW2 5 5), (72, O_int 0 1), (73, O_aload 0 1), (74, O_getf zW2 5 5), (77, O_int 0 1), (78, O_int 8 2), (80, O_acopy zW2 zW2_sa), (83, O_aload 0 1), (84, O_aload 1 1), (85, O_getf zW2 5 6), (88, O_puti zW2_p5_6), (91, O_vret)]
abbrev cut_X5_copyFrom : List Nat := []
set_option maxRecDepth 100000 in
theorem okc_X5_copyFrom {E : En} (F : Fx E RX5 cX5_copyFrom 2 1) (G : Fr E none) : CodOk E zW2 cod_X5_copyFrom := by
  unfold CodOk cod_X5_copyFrom
  refine List.forall_mem_cons.mpr ⟨ok_aload_n F dX5_copyFrom_0 rfl (by decide), ?_⟩
  refine List.forall_mem_cons.mpr ⟨ok_getf F flX5_11 dX5_copyFrom_1 (by decide), ?_⟩
  refine List.forall_mem_cons.mpr ⟨ok_iconst F dX5_copyFrom_4 (by decide) (by decide), ?_⟩
  refine List.forall_mem_cons.mpr ⟨ok_aload_n F dX5_copyFrom_5 rfl (by decide), ?_⟩
  refine List.forall_mem_cons.mpr ⟨ok_getf F flX5_11 dX5_copyFrom_6 (by decide), ?_⟩
  refine List.forall_mem_cons.mpr ⟨ok_iconst F dX5_copyFrom_9 (by decide) (by decide), ?_⟩
  refine List.forall_mem_cons.mpr ⟨ok_bipush F dX5_copyFrom_10 (by decide) (by decide), ?_⟩
  refine List.forall_mem_cons.mpr ⟨ok_acopy F zW2_sar (by decide +kernel) (by decide) dX5_copyFrom_12 (by decide), ?_⟩
  refine List.forall_mem_cons.mpr ⟨ok_aload_n F dX5_copyFrom_15 rfl (by decide), ?_⟩
  refine List.forall_mem_cons.mpr ⟨ok_getf F flX5_15 dX5_copyFrom_16 (by decide), ?_⟩
  refine List.forall_mem_cons.mpr ⟨ok_iconst F dX5_copyFrom_19 (by decide) (by decide), ?_⟩
  refine List.forall_mem_cons.mpr ⟨ok_aload_n F dX5_copyFrom_20 rfl (by decide), ?_⟩
  refine List.forall_mem_cons.mpr ⟨ok_getf F flX5_15 dX5_copyFrom_21 (by decide), ?_⟩
  refine List.forall_mem_cons.mpr ⟨ok_iconst F dX5_copyFrom_24 (by decide) (by decide), ?_⟩
  refine List.forall_mem_cons.mpr ⟨ok_bipush F dX5_copyFrom_25 (by decide) (by decide), ?_⟩
  refine List.forall_mem_cons.mpr ⟨ok_acopy F zW2_sar (by decide +kernel) (by decide) dX5_copyFrom_27 (by decide), ?_⟩
  refine List.forall_mem_cons.mpr ⟨ok_aload_n F dX5_copyFrom_30 rfl (by decide), ?_⟩
  refine List.forall_mem_cons.mpr ⟨ok_aload_n F dX5_copyFrom_31 rfl (by decide), ?_⟩
  refine List.forall_mem_cons.mpr ⟨ok_getf F flX5_34 dX5_copyFrom_32 (by decide), ?_⟩
  refine List.forall_mem_cons.mpr ⟨ok_puti F zW2_p5_2_ok (fun _ _ _ h => by cases h; rfl) rfl flX5_34 dX5_copyFrom_35 (by decide), ?_⟩
  refine List.forall_mem_cons.mpr ⟨ok_aload_n F dX5_copyFrom_38 rfl (by decide), ?_⟩
  refine List.forall_mem_cons.mpr ⟨ok_getf F flX5_19 dX5_copyFrom_39 (by decide), ?_⟩
  refine List.forall_mem_cons.mpr ⟨ok_iconst F dX5_copyFrom_42 (by decide) (by decide), ?_⟩
  refine List.forall_mem_cons.mpr ⟨ok_aload_n F dX5_copyFrom_43 rfl (by decide), ?_⟩
  refine List.forall_mem_cons.mpr ⟨ok_getf F flX5_19 dX5_copyFrom_44 (by decide), ?_⟩
  refine List.forall_mem_cons.mpr ⟨ok_iconst F dX5_copyFrom_47 (by decide) (by decide), ?_⟩
  refine List.forall_mem_cons.mpr ⟨ok_bipush F dX5_copyFrom_48 (by decide) (by decide), ?_⟩
  refine List.forall_mem_cons.mpr ⟨ok_acopy F zW2_sar (by decide +kernel) (by decide) dX5_copyFrom_50 (by decide), ?_⟩
  refine List.forall_mem_cons.mpr ⟨ok_aload_n F dX5_copyFrom_53 rfl (by decide), ?_⟩
  refine List.forall_mem_cons.mpr ⟨ok_getf F flX5_22 dX5_copyFrom_54 (by decide), ?_⟩
  refine List.forall_mem_cons.mpr ⟨ok_iconst F dX5_copyFrom_57 (by decide) (by decide), ?_⟩
  refine List.forall_mem_cons.mpr ⟨ok_aload_n F dX5_copyFrom_58 rfl (by decide), ?_⟩
  refine List.forall_mem_cons.mpr ⟨ok_getf F flX5_22 dX5_copyFrom_59 (by decide), ?_⟩
  refine List.forall_mem_cons.mpr ⟨ok_iconst F dX5_copyFrom_62 (by decide) (by decide), ?_⟩
  refine List.forall_mem_cons.mpr ⟨ok_bipush F dX5_copyFrom_63 (by decide) (by decide), ?_⟩
  refine List.forall_mem_cons.mpr ⟨ok_acopy F zW2_sar (by decide +kernel) (by decide) dX5_copyFrom_65 (by decide), ?_⟩
  refine List.forall_mem_cons.mpr ⟨ok_aload_n F dX5_copyFrom_68 rfl (by decide), ?_⟩
  refine List.forall_mem_cons.mpr ⟨ok_getf F flX5_25 dX5_copyFrom_69 (by decide), ?_⟩
  refine List.forall_mem_cons.mpr ⟨ok_iconst F dX5_copyFrom_72 (by decide) (by decide), ?_⟩
  refine List.forall_mem_cons.mpr ⟨ok_aload_n F dX5_copyFrom_73 rfl (by decide), ?_⟩
  refine List.forall_mem_cons.mpr ⟨ok_getf F flX5_25 dX5_copyFrom_74 (by decide), ?_⟩
  refine List.forall_mem_cons.mpr ⟨ok_iconst F dX5_copyFrom_77 (by decide) (by decide), ?_⟩
  refine List.forall_mem_cons.mpr ⟨ok_bipush F dX5_copyFrom_78 (by decide) (by decide), ?_⟩
  refine List.forall_mem_cons.mpr ⟨ok_acopy F zW2_sar (by decide +kernel) (by decide) dX5_copyFrom_80 (by decide), ?_⟩
  refine List.forall_mem_cons.mpr ⟨ok_aload_n F dX5_copyFrom_83 rfl (by decide), ?_⟩
  refine List.forall_mem_cons.mpr ⟨ok_aload_n F dX5_copyFrom_84 rfl (by decide), ?_⟩
  refine List.forall_mem_cons.mpr ⟨ok_getf F flX5_38 dX5_copyFrom_85 (by decide), ?_⟩
  refine List.forall_mem_cons.mpr ⟨ok_puti F zW2_p5_6_ok (fun _ _ _ h => by cases h; rfl) rfl flX5_38 dX5_copyFrom_88 (by decide), ?_⟩
  refine List.forall_mem_cons.mpr ⟨ok_vret F G dX5_copyFrom_91 (by decide), ?_⟩
  exact fun _ h => absurd h List.not_mem_nil
set_option maxRecDepth 100000 in
theorem w_X5_copyFrom : (∀ (K : Kt (ZT × ZT)) (n : Nat) (L : xL) (st : List Value) (S : (ZT × ZT)), nx cod_X5_copyFrom cut_X5_copyFrom K (n + 1) 0 L st S = (O_aload 1 1) (nx cod_X5_copyFrom cut_X5_copyFrom K n) 0 L st S) ∧
  (∀ (K : Kt (ZT × ZT)) (n : Nat) (L : xL) (st : List Value) (S : (ZT × ZT)), nx cod_X5_copyFrom cut_X5_copyFrom K (n + 1) 1 L st S = (O_getf zW2 5 0) (nx cod_X5_copyFrom cut_X5_copyFrom K n) 1 L st S) ∧
  (∀ (K : Kt (ZT × ZT)) (n : Nat) (L : xL) (st : List Value) (S : (ZT × ZT)), nx cod_X5_copyFrom cut_X5_copyFrom K (n + 1) 4 L st S = (O_int 0 1) (nx cod_X5_copyFrom cut_X5_copyFrom K n) 4 L st S) ∧
  (∀ (K : Kt (ZT × ZT)) (n : Nat) (L : xL) (st : List Value) (S : (ZT × ZT)), nx cod_X5_copyFrom cut_X5_copyFrom K (n + 1) 5 L st S = (O_aload 0 1) (nx cod_X5_copyFrom cut_X5_copyFrom K n) 5 L st S) ∧
  (∀ (K : Kt (ZT × ZT)) (n : Nat) (L : xL) (st : List Value) (S : (ZT × ZT)), nx cod_X5_copyFrom cut_X5_copyFrom K (n + 1) 6 L st S = (O_getf zW2 5 0) (nx cod_X5_copyFrom cut_X5_copyFrom K n) 6 L st S) ∧
  (∀ (K : Kt (ZT × ZT)) (n : Nat) (L : xL) (st : List Value) (S : (ZT × ZT)), nx cod_X5_copyFrom cut_X5_copyFrom K (n + 1) 9 L st S = (O_int 0 1) (nx cod_X5_copyFrom cut_X5_copyFrom K n) 9 L st S) ∧
  (∀ (K : Kt (ZT × ZT)) (n : Nat) (L : xL) (st : List Value) (S : (ZT × ZT)), nx cod_X5_copyFrom cut_X5_copyFrom K (n + 1) 10 L st S = (O_int 8 2) (nx cod_X5_copyFrom cut_X5_copyFrom K n) 10 L st S) ∧
  (∀ (K : Kt (ZT × ZT)) (n : Nat) (L : xL) (st : List Value) (S : (ZT × ZT)), nx cod_X5_copyFrom cut_X5_copyFrom K (n + 1) 12 L st S = (O_acopy zW2 zW2_sa) (nx cod_X5_copyFrom cut_X5_copyFrom K n) 12 L st S) ∧
  (∀ (K : Kt (ZT × ZT)) (n : Nat) (L : xL) (st : List Value) (S : (ZT × ZT)), nx cod_X5_copyFrom cut_X5_copyFrom K (n + 1) 15 L st S = (O_aload 1 1) (nx cod_X5_copyFrom cut_X5_copyFrom K n) 15 L st S) ∧
  (∀ (K : Kt (ZT × ZT)) (n : Nat) (L : xL) (st : List Value) (S : (ZT × ZT)), nx cod_X5_copyFrom cut_X5_copyFrom K (n + 1) 16 L st S = (O_getf zW2 5 1) (nx cod_X5_copyFrom cut_X5_copyFrom K n) 16 L st S) ∧
  (∀ (K : Kt (ZT × ZT)) (n : Nat) (L : xL) (st : List Value) (S : (ZT × ZT)), nx cod_X5_copyFrom cut_X5_copyFrom K (n + 1) 19 L st S = (O_int 0 1) (nx cod_X5_copyFrom cut_X5_copyFrom K n) 19 L st S) ∧
  (∀ (K : Kt (ZT × ZT)) (n : Nat) (L : xL) (st : List Value) (S : (ZT × ZT)), nx cod_X5_copyFrom cut_X5_copyFrom K (n + 1) 20 L st S = (O_aload 0 1) (nx cod_X5_copyFrom cut_X5_copyFrom K n) 20 L st S) ∧
  (∀ (K : Kt (ZT × ZT)) (n : Nat) (L : xL) (st : List Value) (S : (ZT × ZT)), nx cod_X5_copyFrom cut_X5_copyFrom K (n + 1) 21 L st S = (O_getf zW2 5 1) (nx cod_X5_copyFrom cut_X5_copyFrom K n) 21 L st S) ∧
  (∀ (K : Kt (ZT × ZT)) (n : Nat) (L : xL) (st : List Value) (S : (ZT × ZT)), nx cod_X5_copyFrom cut_X5_copyFrom K (n + 1) 24 L st S = (O_int 0 1) (nx cod_X5_copyFrom cut_X5_copyFrom K n) 24 L st S) ∧
  (∀ (K : Kt (ZT × ZT)) (n : Nat) (L : xL) (st : List Value) (S : (ZT × ZT)), nx cod_X5_copyFrom cut_X5_copyFrom K (n + 1) 25 L st S = (O_int 8 2) (nx cod_X5_copyFrom cut_X5_copyFrom K n) 25 L st S) ∧
  (∀ (K : Kt (ZT × ZT)) (n : Nat) (L : xL) (st : List Value) (S : (ZT × ZT)), nx cod_X5_copyFrom cut_X5_copyFrom K (n + 1) 27 L st S = (O_acopy zW2 zW2_sa) (nx cod_X5_copyFrom cut_X5_copyFrom K n) 27 L st S) ∧
  (∀ (K : Kt (ZT × ZT)) (n : Nat) (L : xL) (st : List Value) (S : (ZT × ZT)), nx cod_X5_copyFrom cut_X5_copyFrom K (n + 1) 30 L st S = (O_aload 0 1) (nx cod_X5_copyFrom cut_X5_copyFrom K n) 30 L st S) ∧
  (∀ (K : Kt (ZT × ZT)) (n : Nat) (L : xL) (st : List Value) (S : (ZT × ZT)), nx cod_X5_copyFrom cut_X5_copyFrom K (n + 1) 31 L st S = (O_aload 1 1) (nx cod_X5_copyFrom cut_X5_copyFrom K n) 31 L st S) ∧
  (∀ (K : Kt (ZT × ZT)) (n : Nat) (L : xL) (st : List Value) (S : (ZT × ZT)), nx cod_X5_copyFrom cut_X5_copyFrom K (n + 1) 32 L st S = (O_getf zW2 5 2) (nx cod_X5_copyFrom cut_X5_copyFrom K n) 32 L st S) ∧
  (∀ (K : Kt (ZT × ZT)) (n : Nat) (L : xL) (st : List Value) (S : (ZT × ZT)), nx cod_X5_copyFrom cut_X5_copyFrom K (n + 1) 35 L st S = (O_puti zW2_p5_2) (nx cod_X5_copyFrom cut_X5_copyFrom K n) 35 L st S) ∧
  (∀ (K : Kt (ZT × ZT)) (n : Nat) (L : xL) (st : List Value) (S : (ZT × ZT)), nx cod_X5_copyFrom cut_X5_copyFrom K (n + 1) 38 L st S = (O_aload 1 1) (nx cod_X5_copyFrom cut_X5_copyFrom K n) 38 L st S) ∧
  (∀ (K : Kt (ZT × ZT)) (n : Nat) (L : xL) (st : List Value) (S : (ZT × ZT)), nx cod_X5_copyFrom cut_X5_copyFrom K (n + 1) 39 L st S = (O_getf zW2 5 3) (nx cod_X5_copyFrom cut_X5_copyFrom K n) 39 L st S) ∧
  (∀ (K : Kt (ZT × ZT)) (n : Nat) (L : xL) (st : List Value) (S : (ZT × ZT)), nx cod_X5_copyFrom cut_X5_copyFrom K (n + 1) 42 L st S = (O_int 0 1) (nx cod_X5_copyFrom cut_X5_copyFrom K n) 42 L st S) ∧
  (∀ (K : Kt (ZT × ZT)) (n : Nat) (L : xL) (st : List Value) (S : (ZT × ZT)), nx cod_X5_copyFrom cut_X5_copyFrom K (n + 1) 43 L st S = (O_aload 0 1) (nx cod_X5_copyFrom cut_X5_copyFrom K n) 43 L st S) ∧
  (∀ (K : Kt (ZT × ZT)) (n : Nat) (L : xL) (st : List Value) (S : (ZT × ZT)), nx cod_X5_copyFrom cut_X5_copyFrom K (n + 1) 44 L st S = (O_getf zW2 5 3) (nx cod_X5_copyFrom cut_X5_copyFrom K n) 44 L st S) ∧
  (∀ (K : Kt (ZT × ZT)) (n : Nat) (L : xL) (st : List Value) (S : (ZT × ZT)), nx cod_X5_copyFrom cut_X5_copyFrom K (n + 1) 47 L st S = (O_int 0 1) (nx cod_X5_copyFrom cut_X5_copyFrom K n) 47 L st S) ∧
  (∀ (K : Kt (ZT × ZT)) (n : Nat) (L : xL) (st : List Value) (S : (ZT × ZT)), nx cod_X5_copyFrom cut_X5_copyFrom K (n + 1) 48 L st S = (O_int 8 2) (nx cod_X5_copyFrom cut_X5_copyFrom K n) 48 L st S) ∧
  (∀ (K : Kt (ZT × ZT)) (n : Nat) (L : xL) (st : List Value) (S : (ZT × ZT)), nx cod_X5_copyFrom cut_X5_copyFrom K (n + 1) 50 L st S = (O_acopy zW2 zW2_sa) (nx cod_X5_copyFrom cut_X5_copyFrom K n) 50 L st S) ∧
  (∀ (K : Kt (ZT × ZT)) (n : Nat) (L : xL) (st : List Value) (S : (ZT × ZT)), nx cod_X5_copyFrom cut_X5_copyFrom K (n + 1) 53 L st S = (O_aload 1 1) (nx cod_X5_copyFrom cut_X5_copyFrom K n) 53 L st S) ∧
  (∀ (K : Kt (ZT × ZT)) (n : Nat) (L : xL) (st : List Value) (S : (ZT × ZT)), nx cod_X5_copyFrom cut_X5_copyFrom K (n + 1) 54 L st S = (O_getf zW2 5 4) (nx cod_X5_copyFrom cut_X5_copyFrom K n) 54 L st S) ∧
  (∀ (K : Kt (ZT × ZT)) (n : Nat) (L : xL) (st : List Value) (S : (ZT × ZT)), nx cod_X5_copyFrom cut_X5_copyFrom K (n + 1) 57 L st S = (O_int 0 1) (nx cod_X5_copyFrom cut_X5_copyFrom K n) 57 L st S) ∧
  (∀ (K : Kt (ZT × ZT)) (n : Nat) (L : xL) (st : List Value) (S : (ZT × ZT)), nx cod_X5_copyFrom cut_X5_copyFrom K (n + 1) 58 L st S = (O_aload 0 1) (nx cod_X5_copyFrom cut_X5_copyFrom K n) 58 L st S) ∧
  (∀ (K : Kt (ZT × ZT)) (n : Nat) (L : xL) (st : List Value) (S : (ZT × ZT)), nx cod_X5_copyFrom cut_X5_copyFrom K (n + 1) 59 L st S = (O_getf zW2 5 4) (nx cod_X5_copyFrom cut_X5_copyFrom K n) 59 L st S) ∧
  (∀ (K : Kt (ZT × ZT)) (n : Nat) (L : xL) (st : List Value) (S : (ZT × ZT)), nx cod_X5_copyFrom cut_X5_copyFrom K (n + 1) 62 L st S = (O_int 0 1) (nx cod_X5_copyFrom cut_X5_copyFrom K n) 62 L st S) ∧
  (∀ (K : Kt (ZT × ZT)) (n : Nat) (L : xL) (st : List Value) (S : (ZT × ZT)), nx cod_X5_copyFrom cut_X5_copyFrom K (n + 1) 63 L st S = (O_int 8 2) (nx cod_X5_copyFrom cut_X5_copyFrom K n) 63 L st S) ∧
  (∀ (K : Kt (ZT × ZT)) (n : Nat) (L : xL) (st : List Value) (S : (ZT × ZT)), nx cod_X5_copyFrom cut_X5_copyFrom K (n + 1) 65 L st S = (O_acopy zW2 zW2_sa) (nx cod_X5_copyFrom cut_X5_copyFrom K n) 65 L st S) ∧
  (∀ (K : Kt (ZT × ZT)) (n : Nat) (L : xL) (st : List Value) (S : (ZT × ZT)), nx cod_X5_copyFrom cut_X5_copyFrom K (n + 1) 68 L st S = (O_aload 1 1) (nx cod_X5_copyFrom cut_X5_copyFrom K n) 68 L st S) ∧
  (∀ (K : Kt (ZT × ZT)) (n : Nat) (L : xL) (st : List Value) (S : (ZT × ZT)), nx cod_X5_copyFrom cut_X5_copyFrom K (n + 1) 69 L st S = (O_getf zW2 5 5) (nx cod_X5_copyFrom cut_X5_copyFrom K n) 69 L st S) ∧
  (∀ (K : Kt (ZT × ZT)) (n : Nat) (L : xL) (st : List Value) (S : (ZT × ZT)), nx cod_X5_copyFrom cut_X5_copyFrom K (n + 1) 72 L st S = (O_int 0 1) (nx cod_X5_copyFrom cut_X5_copyFrom K n) 72 L st S) ∧
  (∀ (K : Kt (ZT × ZT)) (n : Nat) (L : xL) (st : List Value) (S : (ZT × ZT)), nx cod_X5_copyFrom cut_X5_copyFrom K (n + 1) 73 L st S = (O_aload 0 1) (nx cod_X5_copyFrom cut_X5_copyFrom K n) 73 L st S) ∧
  (∀ (K : Kt (ZT × ZT)) (n : Nat) (L : xL) (st : List Value) (S : (ZT × ZT)), nx cod_X5_copyFrom cut_X5_copyFrom K (n + 1) 74 L st S = (O_getf zW2 5 5) (nx cod_X5_copyFrom cut_X5_copyFrom K n) 74 L st S) ∧
  (∀ (K : Kt (ZT × ZT)) (n : Nat) (L : xL) (st : List Value) (S : (ZT × ZT)), nx cod_X5_copyFrom cut_X5_copyFrom K (n + 1) 77 L st S = (O_int 0 1) (nx cod_X5_copyFrom cut_X5_copyFrom K n) 77 L st S) ∧
  (∀ (K : Kt (ZT × ZT)) (n : Nat) (L : xL) (st : List Value) (S : (ZT × ZT)), nx cod_X5_copyFrom cut_X5_copyFrom K (n + 1) 78 L st S = (O_int 8 2) (nx cod_X5_copyFrom cut_X5_copyFrom K n) 78 L st S) ∧
  (∀ (K : Kt (ZT × ZT)) (n : Nat) (L : xL) (st : List Value) (S : (ZT × ZT)), nx cod_X5_copyFrom cut_X5_copyFrom K (n + 1) 80 L st S = (O_acopy zW2 zW2_sa) (nx cod_X5_copyFrom cut_X5_copyFrom K n) 80 L st S) ∧
  (∀ (K : Kt (ZT × ZT)) (n : Nat) (L : xL) (st : List Value) (S : (ZT × ZT)), nx cod_X5_copyFrom cut_X5_copyFrom K (n + 1) 83 L st S = (O_aload 0 1) (nx cod_X5_copyFrom cut_X5_copyFrom K n) 83 L st S) ∧
  (∀ (K : Kt (ZT × ZT)) (n : Nat) (L : xL) (st : List Value) (S : (ZT × ZT)), nx cod_X5_copyFrom cut_X5_copyFrom K (n + 1) 84 L st S = (O_aload 1 1) (nx cod_X5_copyFrom cut_X5_copyFrom K n) 84 L st S) ∧
  (∀ (K : Kt (ZT × ZT)) (n : Nat) (L : xL) (st : List Value) (S : (ZT × ZT)), nx cod_X5_copyFrom cut_X5_copyFrom K (n + 1) 85 L st S = (O_getf zW2 5 6) (nx cod_X5_copyFrom cut_X5_copyFrom K n) 85 L st S) ∧
  (∀ (K : Kt (ZT × ZT)) (n : Nat) (L : xL) (st : List Value) (S : (ZT × ZT)), nx cod_X5_copyFrom cut_X5_copyFrom K (n + 1) 88 L st S = (O_puti zW2_p5_6) (nx cod_X5_copyFrom cut_X5_copyFrom K n) 88 L st S) ∧
  (∀ (K : Kt (ZT × ZT)) (n : Nat) (L : xL) (st : List Value) (S : (ZT × ZT)), nx cod_X5_copyFrom cut_X5_copyFrom K (n + 1) 91 L st S = (O_vret) (nx cod_X5_copyFrom cut_X5_copyFrom K n) 91 L st S) ∧
  (∀ (K : Kt (ZT × ZT)) (n : Nat) (L : xL) (st : List Value) (S : (ZT × ZT)), nx cod_X5_copyFrom cut_X5_copyFrom K (n + 1) 100000 L st S = K 100000 L st S) := by
  repeat' apply And.intro
  all_goals (intros; rfl)
set_option maxRecDepth 100000 in
theorem mk_X5_copyFrom {P P' : (ZT × ZT)} {r : Option Value}  (body : ∀ E : En, CodOk E zW2 cod_X5_copyFrom → Gd E zW2 100000 [] r.toList P' → Gd E zW2 0 [some (.ref 0), some (.ref 6)] [] P) : Con yX5_copyFrom cX5_copyFrom 2 none 1 zW2 [.ref 0, .ref 6] P r P' :=
  Con.of (by decide) rfl rfl (Nat.le_of_ble_eq_true rfl) (fun E F G hr => body E (okc_X5_copyFrom F G) hr)
theorem con_X5_copyFrom (S : (ZT × ZT))  (hp : ∀ i, i < 8 → b01 (S.2.isOpen i)) : Con yX5_copyFrom cX5_copyFrom 2 none 1 zW2 [.ref 0, .ref 6] S (none) ((S.2, S.2)) := by
  refine mk_X5_copyFrom (fun E C hr => ?_)
  have hb : ∀ i, i < 8 → fits .boolean (.int (S.2.isOpen i)) = true := fun i hi => (b01_fits (hp i hi)).1
  (refine nx_ok C (cuts := cut_X5_copyFrom) 1000 _ _ _ _ ?_; simp only [w_X5_copyFrom, ops_eq, xst_eq, call_eq, oK_eq, Option.toList_some, Option.toList_none, List.cons_append, List.nil_append, List.length_cons, List.length_nil, true_and, and_true, Nat.reduceAdd, zW2_F, zW2_A, zW2_S, zW2_P, acopy_eq, O_callC_eq, ZT_gs, fits_int, cl_eq])
  ((repeat' (with_reducible first | apply And.intro | intro _)) <;> simp_all [hb, ZT_gs])
  exact hr
def sp_X5_copyFrom : Sp (ZT × ZT) := fun av S K => match av with
  | [.ref 0, .ref 6] => (∀ i, i < 8 → b01 (S.2.isOpen i)) ∧ K (none) ((S.2, S.2))
  | _ => False
theorem se_X5_copyFrom  (S : (ZT × ZT)) (K : Option Value → (ZT × ZT) → Prop) : sp_X5_copyFrom [.ref 0, .ref 6] S K = ((∀ i, i < 8 → b01 (S.2.isOpen i)) ∧ K (none) ((S.2, S.2))) := rfl
theorem spok_X5_copyFrom : SpOk yX5_copyFrom cX5_copyFrom 2 none 1 zW2 sp_X5_copyFrom := by
  intro av S K h
  unfold sp_X5_copyFrom at h
  split at h
  · exact ⟨none, (S.2, S.2), trivial, con_X5_copyFrom S  h.1, h.2⟩
  · exact h.elim
