/-! ===== Orders ===== -/
def OT.n (S : OT) : Nat := S.length.toNatClampNeg
def OT.ok (S : OT) : Prop := isN S.length S.n 60
def OT.has (S : OT) (p : Int32) : Bool := decide (¬ p < 0 ∧ p < S.length)
theorem OT.has_in {S : OT} {p : Int32} (hs : S.ok) (h : S.has p = true) : vp_in p 60 := by
  simp only [OT.has, decide_eq_true_eq] at h
  exact isN_vp hs h.1 h.2
/-- a char's number -/
def chr (x : Int32) : Prop := vp_nar .char x = x ∧ narrow .char (.int x) = .int x ∧ fits .char (.int x) = true
theorem flX2_9 : fldOk RX2 9 2 0 = true := by decide +kernel
theorem flX2_13 : fldOk RX2 13 2 1 = true := by decide +kernel
def cod_X2_append : List (Nat × Op OT) := [(0, O_aload 0 1), (1, O_getf oW 2 1), (4, O_int 60 2), (6, O_icmp_ge 29), (9, O_aload 0 1), (10, O_getf oW 2 0), (13, O_aload 0 1), (14, O_getf oW 2 1), (17, O_iload 1 1), (18, O_ast oW 2 oW_sa), (19, O_aload 0 1), (20, O_dup), (21, O_getf oW 2 1), (24, O_int 1 1), (25, O_iadd), (26, O_puti oW_p2_1), (29, O_vret)]
abbrev cut_X2_append : List Nat := []
set_option maxRecDepth 100000 in
theorem okc_X2_append {E : En} (F : Fx E RX2 cX2_append 2 0) (G : Fr E none) : CodOk E oW cod_X2_append := by
  unfold CodOk cod_X2_append
  refine List.forall_mem_cons.mpr ⟨ok_aload_n F dX2_append_0 rfl (by decide), ?_⟩
  refine List.forall_mem_cons.mpr ⟨ok_getf F flX2_13 dX2_append_1 (by decide), ?_⟩
  refine List.forall_mem_cons.mpr ⟨ok_bipush F dX2_append_4 (by decide) (by decide), ?_⟩
  refine List.forall_mem_cons.mpr ⟨ok_icmp_ge F dX2_append_6 (by decide) (by decide) (by decide), ?_⟩
  refine List.forall_mem_cons.mpr ⟨ok_aload_n F dX2_append_9 rfl (by decide), ?_⟩
  refine List.forall_mem_cons.mpr ⟨ok_getf F flX2_9 dX2_append_10 (by decide), ?_⟩
  refine List.forall_mem_cons.mpr ⟨ok_aload_n F dX2_append_13 rfl (by decide), ?_⟩
  refine List.forall_mem_cons.mpr ⟨ok_getf F flX2_13 dX2_append_14 (by decide), ?_⟩
  refine List.forall_mem_cons.mpr ⟨ok_iload_n F dX2_append_17 rfl (by decide), ?_⟩
  refine List.forall_mem_cons.mpr ⟨ok_cast F oW_sar dX2_append_18 (by decide), ?_⟩
  refine List.forall_mem_cons.mpr ⟨ok_aload_n F dX2_append_19 rfl (by decide), ?_⟩
  refine List.forall_mem_cons.mpr ⟨ok_dup F dX2_append_20 (by decide), ?_⟩
  refine List.forall_mem_cons.mpr ⟨ok_getf F flX2_13 dX2_append_21 (by decide), ?_⟩
  refine List.forall_mem_cons.mpr ⟨ok_iconst F dX2_append_24 (by decide) (by decide), ?_⟩
  refine List.forall_mem_cons.mpr ⟨ok_iadd F dX2_append_25 (by decide), ?_⟩
  refine List.forall_mem_cons.mpr ⟨ok_puti F oW_p2_1_ok (fun _ _ _ h => by cases h; rfl) rfl flX2_13 dX2_append_26 (by decide), ?_⟩
  refine List.forall_mem_cons.mpr ⟨ok_vret F G dX2_append_29 (by decide), ?_⟩
  exact fun _ h => absurd h List.not_mem_nil
set_option maxRecDepth 100000 in
theorem w_X2_append : (∀ (K : Kt OT) (n : Nat) (L : xL) (st : List Value) (S : OT), nx cod_X2_append cut_X2_append K (n + 1) 0 L st S = (O_aload 0 1) (nx cod_X2_append cut_X2_append K n) 0 L st S) ∧
  (∀ (K : Kt OT) (n : Nat) (L : xL) (st : List Value) (S : OT), nx cod_X2_append cut_X2_append K (n + 1) 1 L st S = (O_getf oW 2 1) (nx cod_X2_append cut_X2_append K n) 1 L st S) ∧
  (∀ (K : Kt OT) (n : Nat) (L : xL) (st : List Value) (S : OT), nx cod_X2_append cut_X2_append K (n + 1) 4 L st S = (O_int 60 2) (nx cod_X2_append cut_X2_append K n) 4 L st S) ∧
  (∀ (K : Kt OT) (n : Nat) (L : xL) (st : List Value) (S : OT), nx cod_X2_append cut_X2_append K (n + 1) 6 L st S = (O_icmp_ge 29) (nx cod_X2_append cut_X2_append K n) 6 L st S) ∧
  (∀ (K : Kt OT) (n : Nat) (L : xL) (st : List Value) (S : OT), nx cod_X2_append cut_X2_append K (n + 1) 9 L st S = (O_aload 0 1) (nx cod_X2_append cut_X2_append K n) 9 L st S) ∧
  (∀ (K : Kt OT) (n : Nat) (L : xL) (st : List Value) (S : OT), nx cod_X2_append cut_X2_append K (n + 1) 10 L st S = (O_getf oW 2 0) (nx cod_X2_append cut_X2_append K n) 10 L st S) ∧
  (∀ (K : Kt OT) (n : Nat) (L : xL) (st : List Value) (S : OT), nx cod_X2_append cut_X2_append K (n + 1) 13 L st S = (O_aload 0 1) (nx cod_X2_append cut_X2_append K n) 13 L st S) ∧
  (∀ (K : Kt OT) (n : Nat) (L : xL) (st : List Value) (S : OT), nx cod_X2_append cut_X2_append K (n + 1) 14 L st S = (O_getf oW 2 1) (nx cod_X2_append cut_X2_append K n) 14 L st S) ∧
  (∀ (K : Kt OT) (n : Nat) (L : xL) (st : List Value) (S : OT), nx cod_X2_append cut_X2_append K (n + 1) 17 L st S = (O_iload 1 1) (nx cod_X2_append cut_X2_append K n) 17 L st S) ∧
  (∀ (K : Kt OT) (n : Nat) (L : xL) (st : List Value) (S : OT), nx cod_X2_append cut_X2_append K (n + 1) 18 L st S = (O_ast oW 2 oW_sa) (nx cod_X2_append cut_X2_append K n) 18 L st S) ∧
  (∀ (K : Kt OT) (n : Nat) (L : xL) (st : List Value) (S : OT), nx cod_X2_append cut_X2_append K (n + 1) 19 L st S = (O_aload 0 1) (nx cod_X2_append cut_X2_append K n) 19 L st S) ∧
  (∀ (K : Kt OT) (n : Nat) (L : xL) (st : List Value) (S : OT), nx cod_X2_append cut_X2_append K (n + 1) 20 L st S = (O_dup) (nx cod_X2_append cut_X2_append K n) 20 L st S) ∧
  (∀ (K : Kt OT) (n : Nat) (L : xL) (st : List Value) (S : OT), nx cod_X2_append cut_X2_append K (n + 1) 21 L st S = (O_getf oW 2 1) (nx cod_X2_append cut_X2_append K n) 21 L st S) ∧
  (∀ (K : Kt OT) (n : Nat) (L : xL) (st : List Value) (S : OT), nx cod_X2_append cut_X2_append K (n + 1) 24 L st S = (O_int 1 1) (nx cod_X2_append cut_X2_append K n) 24 L st S) ∧
  (∀ (K : Kt OT) (n : Nat) (L : xL) (st : List Value) (S : OT), nx cod_X2_append cut_X2_append K (n + 1) 25 L st S = (O_iadd) (nx cod_X2_append cut_X2_append K n) 25 L st S) ∧
  (∀ (K : Kt OT) (n : Nat) (L : xL) (st : List Value) (S : OT), nx cod_X2_append cut_X2_append K (n + 1) 26 L st S = (O_puti oW_p2_1) (nx cod_X2_append cut_X2_append K n) 26 L st S) ∧
  (∀ (K : Kt OT) (n : Nat) (L : xL) (st : List Value) (S : OT), nx cod_X2_append cut_X2_append K (n + 1) 29 L st S = (O_vret) (nx cod_X2_append cut_X2_append K n) 29 L st S) ∧
  (∀ (K : Kt OT) (n : Nat) (L : xL) (st : List Value) (S : OT), nx cod_X2_append cut_X2_append K (n + 1) 100000 L st S = K 100000 L st S) := by
  repeat' apply And.intro
  all_goals (intros; rfl)
set_option maxRecDepth 100000 in
theorem mk_X2_append {P P' : OT} {r : Option Value} {p0 : Int32} (body : ∀ E : En, CodOk E oW cod_X2_append → Gd E oW 100000 [] r.toList P' → Gd E oW 0 [some (.ref 0), some (.int p0)] [] P) : Con yX2_append cX2_append 2 none 0 oW [.ref 0, .int p0] P r P' :=
  Con.of (by decide) rfl rfl (Nat.le_of_ble_eq_true rfl) (fun E F G hr => body E (okc_X2_append F G) hr)
theorem con_X2_append (S : OT) (c : Int32) (hp : S.ok ∧ S.length < 60 ∧ chr c) : Con yX2_append cX2_append 2 none 0 oW [.ref 0, .int c] S (none) ((S.sText (upd S.text S.n c)).sLength (S.length + 1)) := by
  refine mk_X2_append (fun E C hr => ?_)
  have hn : vp_in S.length 60 := isN_add hp.1 hp.2.1
  have hs := hp.2.1
  have hc := hp.2.2.1
  (refine nx_ok C (cuts := cut_X2_append) 1000 _ _ _ _ ?_; simp only [w_X2_append, ops_eq, xst_eq, call_eq, oK_eq, Option.toList_some, Option.toList_none, List.cons_append, List.nil_append, List.length_cons, List.length_nil, true_and, and_true, Nat.reduceAdd, oW_F, oW_A, oW_S, oW_P, OT_gs, show ∀ x, xnar 2 x = vp_nar .char x from fun _ => rfl])
  ((repeat' (with_reducible first | apply And.intro | intro _)) <;> simp_all [OT.n, OT_gs])
def sp_X2_append : Sp OT := fun av S K => match av with
  | [.ref 0, .int c] => (S.ok ∧ S.length < 60 ∧ chr c) ∧ K (none) ((S.sText (upd S.text S.n c)).sLength (S.length + 1))
  | _ => False
theorem se_X2_append (c : Int32) (S : OT) (K : Option Value → OT → Prop) : sp_X2_append [.ref 0, .int c] S K = ((S.ok ∧ S.length < 60 ∧ chr c) ∧ K (none) ((S.sText (upd S.text S.n c)).sLength (S.length + 1))) := rfl
theorem spok_X2_append : SpOk yX2_append cX2_append 2 none 0 oW sp_X2_append := by
  intro av S K h
  unfold sp_X2_append at h
  split at h
  · rename_i c; exact ⟨none, (S.sText (upd S.text S.n c)).sLength (S.length + 1), trivial, con_X2_append S c h.1, h.2⟩
  · exact h.elim
theorem flX2_17 : fldOk RX2 17 2 2 = true := by decide +kernel
theorem flX2_20 : fldOk RX2 20 2 4 = true := by decide +kernel
def cod_X2_begin : List (Nat × Op OT) := [(0, O_aload 0 1), (1, O_int 0 1), (2, O_puti oW_p2_2), (5, O_aload 0 1), (6, O_int 0 1), (7, O_puti oW_p2_4), (10, O_vret)]
abbrev cut_X2_begin : List Nat := []
set_option maxRecDepth 100000 in
theorem okc_X2_begin {E : En} (F : Fx E RX2 cX2_begin 1 0) (G : Fr E none) : CodOk E oW cod_X2_begin := by
  unfold CodOk cod_X2_begin
  refine List.forall_mem_cons.mpr ⟨ok_aload_n F dX2_begin_0 rfl (by decide), ?_⟩
  refine List.forall_mem_cons.mpr ⟨ok_iconst F dX2_begin_1 (by decide) (by decide), ?_⟩
  refine List.forall_mem_cons.mpr ⟨ok_puti F oW_p2_2_ok (fun _ _ _ h => by cases h; rfl) rfl flX2_17 dX2_begin_2 (by decide), ?_⟩
  refine List.forall_mem_cons.mpr ⟨ok_aload_n F dX2_begin_5 rfl (by decide), ?_⟩
  refine List.forall_mem_cons.mpr ⟨ok_iconst F dX2_begin_6 (by decide) (by decide), ?_⟩
  refine List.forall_mem_cons.mpr ⟨ok_puti F oW_p2_4_ok (fun _ _ _ h => by cases h; rfl) rfl flX2_20 dX2_begin_7 (by decide), ?_⟩
  refine List.forall_mem_cons.mpr ⟨ok_vret F G dX2_begin_10 (by decide), ?_⟩
  exact fun _ h => absurd h List.not_mem_nil
set_option maxRecDepth 100000 in
theorem w_X2_begin : (∀ (K : Kt OT) (n : Nat) (L : xL) (st : List Value) (S : OT), nx cod_X2_begin cut_X2_begin K (n + 1) 0 L st S = (O_aload 0 1) (nx cod_X2_begin cut_X2_begin K n) 0 L st S) ∧
  (∀ (K : Kt OT) (n : Nat) (L : xL) (st : List Value) (S : OT), nx cod_X2_begin cut_X2_begin K (n + 1) 1 L st S = (O_int 0 1) (nx cod_X2_begin cut_X2_begin K n) 1 L st S) ∧
  (∀ (K : Kt OT) (n : Nat) (L : xL) (st : List Value) (S : OT), nx cod_X2_begin cut_X2_begin K (n + 1) 2 L st S = (O_puti oW_p2_2) (nx cod_X2_begin cut_X2_begin K n) 2 L st S) ∧
  (∀ (K : Kt OT) (n : Nat) (L : xL) (st : List Value) (S : OT), nx cod_X2_begin cut_X2_begin K (n + 1) 5 L st S = (O_aload 0 1) (nx cod_X2_begin cut_X2_begin K n) 5 L st S) ∧
  (∀ (K : Kt OT) (n : Nat) (L : xL) (st : List Value) (S : OT), nx cod_X2_begin cut_X2_begin K (n + 1) 6 L st S = (O_int 0 1) (nx cod_X2_begin cut_X2_begin K n) 6 L st S) ∧
  (∀ (K : Kt OT) (n : Nat) (L : xL) (st : List Value) (S : OT), nx cod_X2_begin cut_X2_begin K (n + 1) 7 L st S = (O_puti oW_p2_4) (nx cod_X2_begin cut_X2_begin K n) 7 L st S) ∧
  (∀ (K : Kt OT) (n : Nat) (L : xL) (st : List Value) (S : OT), nx cod_X2_begin cut_X2_begin K (n + 1) 10 L st S = (O_vret) (nx cod_X2_begin cut_X2_begin K n) 10 L st S) ∧
  (∀ (K : Kt OT) (n : Nat) (L : xL) (st : List Value) (S : OT), nx cod_X2_begin cut_X2_begin K (n + 1) 100000 L st S = K 100000 L st S) := by
  repeat' apply And.intro
  all_goals (intros; rfl)
set_option maxRecDepth 100000 in
theorem mk_X2_begin {P P' : OT} {r : Option Value}  (body : ∀ E : En, CodOk E oW cod_X2_begin → Gd E oW 100000 [] r.toList P' → Gd E oW 0 [some (.ref 0)] [] P) : Con yX2_begin cX2_begin 1 none 0 oW [.ref 0] P r P' :=
  Con.of (by decide) rfl rfl (Nat.le_of_ble_eq_true rfl) (fun E F G hr => body E (okc_X2_begin F G) hr)
theorem con_X2_begin (S : OT)  : Con yX2_begin cX2_begin 1 none 0 oW [.ref 0] S (none) ((S.sPlace 0).sDone 0) := by
  refine mk_X2_begin (fun E C hr => ?_)
  (refine nx_ok C (cuts := cut_X2_begin) 1000 _ _ _ _ ?_; simp only [w_X2_begin, ops_eq, xst_eq, call_eq, oK_eq, Option.toList_some, Option.toList_none, List.cons_append, List.nil_append, List.length_cons, List.length_nil, true_and, and_true, Nat.reduceAdd, oW_F, oW_A, oW_S, oW_P, OT_gs])
  ((repeat' (with_reducible first | apply And.intro | intro _)) <;> simp_all [OT_gs])
def sp_X2_begin : Sp OT := fun av S K => match av with
  | [.ref 0] => K (none) ((S.sPlace 0).sDone 0)
  | _ => False
theorem se_X2_begin  (S : OT) (K : Option Value → OT → Prop) : sp_X2_begin [.ref 0] S K = (K (none) ((S.sPlace 0).sDone 0)) := rfl
theorem spok_X2_begin : SpOk yX2_begin cX2_begin 1 none 0 oW sp_X2_begin := by
  intro av S K h
  unfold sp_X2_begin at h
  split at h
  · exact ⟨none, (S.sPlace 0).sDone 0, trivial, con_X2_begin S , h⟩
  · exact h.elim
def cod_X2_atEnd : List (Nat × Op OT) := [(0, O_aload 0 1), (1, O_getf oW 2 2), (4, O_aload 0 1), (5, O_getf oW 2 1), (8, O_icmp_lt 15), (11, O_int 1 1), (12, O_goto 16), (15, O_int 0 1), (16, O_zret)]
abbrev cut_X2_atEnd : List Nat := []
set_option maxRecDepth 100000 in
theorem okc_X2_atEnd {E : En} (F : Fx E RX2 cX2_atEnd 1 0) (G : Fr E (some .boolean)) : CodOk E oW cod_X2_atEnd := by
  unfold CodOk cod_X2_atEnd
  refine List.forall_mem_cons.mpr ⟨ok_aload_n F dX2_atEnd_0 rfl (by decide), ?_⟩
  refine List.forall_mem_cons.mpr ⟨ok_getf F flX2_17 dX2_atEnd_1 (by decide), ?_⟩
  refine List.forall_mem_cons.mpr ⟨ok_aload_n F dX2_atEnd_4 rfl (by decide), ?_⟩
  refine List.forall_mem_cons.mpr ⟨ok_getf F flX2_13 dX2_atEnd_5 (by decide), ?_⟩
  refine List.forall_mem_cons.mpr ⟨ok_icmp_lt F dX2_atEnd_8 (by decide) (by decide) (by decide), ?_⟩
  refine List.forall_mem_cons.mpr ⟨ok_iconst F dX2_atEnd_11 (by decide) (by decide), ?_⟩
  refine List.forall_mem_cons.mpr ⟨ok_goto F dX2_atEnd_12 (by decide) (by decide) (by decide), ?_⟩
  refine List.forall_mem_cons.mpr ⟨ok_iconst F dX2_atEnd_15 (by decide) (by decide), ?_⟩
  refine List.forall_mem_cons.mpr ⟨ok_zret F G dX2_atEnd_16 (by decide), ?_⟩
  exact fun _ h => absurd h List.not_mem_nil
set_option maxRecDepth 100000 in
theorem w_X2_atEnd : (∀ (K : Kt OT) (n : Nat) (L : xL) (st : List Value) (S : OT), nx cod_X2_atEnd cut_X2_atEnd K (n + 1) 0 L st S = (O_aload 0 1) (nx cod_X2_atEnd cut_X2_atEnd K n) 0 L st S) ∧
  (∀ (K : Kt OT) (n : Nat) (L : xL) (st : List Value) (S : OT), nx cod_X2_atEnd cut_X2_atEnd K (n + 1) 1 L st S = (O_getf oW 2 2) (nx cod_X2_atEnd cut_X2_atEnd K n) 1 L st S) ∧
  (∀ (K : Kt OT) (n : Nat) (L : xL) (st : List Value) (S : OT), nx cod_X2_atEnd cut_X2_atEnd K (n + 1) 4 L st S = (O_aload 0 1) (nx cod_X2_atEnd cut_X2_atEnd K n) 4 L st S) ∧
  (∀ (K : Kt OT) (n : Nat) (L : xL) (st : List Value) (S : OT), nx cod_X2_atEnd cut_X2_atEnd K (n + 1) 5 L st S = (O_getf oW 2 1) (nx cod_X2_atEnd cut_X2_atEnd K n) 5 L st S) ∧
  (∀ (K : Kt OT) (n : Nat) (L : xL) (st : List Value) (S : OT), nx cod_X2_atEnd cut_X2_atEnd K (n + 1) 8 L st S = (O_icmp_lt 15) (nx cod_X2_atEnd cut_X2_atEnd K n) 8 L st S) ∧
  (∀ (K : Kt OT) (n : Nat) (L : xL) (st : List Value) (S : OT), nx cod_X2_atEnd cut_X2_atEnd K (n + 1) 11 L st S = (O_int 1 1) (nx cod_X2_atEnd cut_X2_atEnd K n) 11 L st S) ∧
  (∀ (K : Kt OT) (n : Nat) (L : xL) (st : List Value) (S : OT), nx cod_X2_atEnd cut_X2_atEnd K (n + 1) 12 L st S = (O_goto 16) (nx cod_X2_atEnd cut_X2_atEnd K n) 12 L st S) ∧
  (∀ (K : Kt OT) (n : Nat) (L : xL) (st : List Value) (S : OT), nx cod_X2_atEnd cut_X2_atEnd K (n + 1) 15 L st S = (O_int 0 1) (nx cod_X2_atEnd cut_X2_atEnd K n) 15 L st S) ∧
  (∀ (K : Kt OT) (n : Nat) (L : xL) (st : List Value) (S : OT), nx cod_X2_atEnd cut_X2_atEnd K (n + 1) 16 L st S = (O_zret) (nx cod_X2_atEnd cut_X2_atEnd K n) 16 L st S) ∧
  (∀ (K : Kt OT) (n : Nat) (L : xL) (st : List Value) (S : OT), nx cod_X2_atEnd cut_X2_atEnd K (n + 1) 100000 L st S = K 100000 L st S) := by
  repeat' apply And.intro
  all_goals (intros; rfl)
set_option maxRecDepth 100000 in
theorem mk_X2_atEnd {P P' : OT} {r : Option Value}  (body : ∀ E : En, CodOk E oW cod_X2_atEnd → Gd E oW 100000 [] r.toList P' → Gd E oW 0 [some (.ref 0)] [] P) : Con yX2_atEnd cX2_atEnd 1 (some .boolean) 0 oW [.ref 0] P r P' :=
  Con.of (by decide) rfl rfl (Nat.le_of_ble_eq_true rfl) (fun E F G hr => body E (okc_X2_atEnd F G) hr)
theorem con_X2_atEnd (S : OT)  : Con yX2_atEnd cX2_atEnd 1 (some .boolean) 0 oW [.ref 0] S (some (.int (bI (decide (¬ S.place < S.length))))) (S) := by
  refine mk_X2_atEnd (fun E C hr => ?_)
  (refine nx_ok C (cuts := cut_X2_atEnd) 1000 _ _ _ _ ?_; simp only [w_X2_atEnd, ops_eq, xst_eq, call_eq, oK_eq, Option.toList_some, Option.toList_none, List.cons_append, List.nil_append, List.length_cons, List.length_nil, true_and, and_true, Nat.reduceAdd, oW_F, oW_A, oW_S, oW_P, OT_gs, bI_eq])
  ((repeat' (with_reducible first | apply And.intro | intro _)) <;> simp_all [bI, OT_gs])
def sp_X2_atEnd : Sp OT := fun av S K => match av with
  | [.ref 0] => K (some (.int (bI (decide (¬ S.place < S.length))))) (S)
  | _ => False
theorem se_X2_atEnd  (S : OT) (K : Option Value → OT → Prop) : sp_X2_atEnd [.ref 0] S K = (K (some (.int (bI (decide (¬ S.place < S.length))))) (S)) := rfl
theorem spok_X2_atEnd : SpOk yX2_atEnd cX2_atEnd 1 (some .boolean) 0 oW sp_X2_atEnd := by
  intro av S K h
  unfold sp_X2_atEnd at h
  split at h
  · exact ⟨some (.int (bI (decide (¬ S.place < S.length)))), S, trivial, con_X2_atEnd S , h⟩
  · exact h.elim
theorem flX2_34 : fldOk RX2 34 2 3 = true := by decide +kernel
def cod_X2_next : List (Nat × Op OT) := [(0, O_aload 0 1), (1, O_aload 0 1), (2, O_getf oW 2 3), (5, O_puti oW_p2_2), (8, O_aload 0 1), (9, O_dup), (10, O_getf oW 2 4), (13, O_int 1 1), (14, O_iadd), (15, O_puti oW_p2_4), (18, O_vret)]
abbrev cut_X2_next : List Nat := []
set_option maxRecDepth 100000 in
theorem okc_X2_next {E : En} (F : Fx E RX2 cX2_next 1 0) (G : Fr E none) : CodOk E oW cod_X2_next := by
  unfold CodOk cod_X2_next
  refine List.forall_mem_cons.mpr ⟨ok_aload_n F dX2_next_0 rfl (by decide), ?_⟩
  refine List.forall_mem_cons.mpr ⟨ok_aload_n F dX2_next_1 rfl (by decide), ?_⟩
  refine List.forall_mem_cons.mpr ⟨ok_getf F flX2_34 dX2_next_2 (by decide), ?_⟩
  refine List.forall_mem_cons.mpr ⟨ok_puti F oW_p2_2_ok (fun _ _ _ h => by cases h; rfl) rfl flX2_17 dX2_next_5 (by decide), ?_⟩
  refine List.forall_mem_cons.mpr ⟨ok_aload_n F dX2_next_8 rfl (by decide), ?_⟩
  refine List.forall_mem_cons.mpr ⟨ok_dup F dX2_next_9 (by decide), ?_⟩
  refine List.forall_mem_cons.mpr ⟨ok_getf F flX2_20 dX2_next_10 (by decide), ?_⟩
  refine List.forall_mem_cons.mpr ⟨ok_iconst F dX2_next_13 (by decide) (by decide), ?_⟩
  refine List.forall_mem_cons.mpr ⟨ok_iadd F dX2_next_14 (by decide), ?_⟩
  refine List.forall_mem_cons.mpr ⟨ok_puti F oW_p2_4_ok (fun _ _ _ h => by cases h; rfl) rfl flX2_20 dX2_next_15 (by decide), ?_⟩
  refine List.forall_mem_cons.mpr ⟨ok_vret F G dX2_next_18 (by decide), ?_⟩
  exact fun _ h => absurd h List.not_mem_nil
set_option maxRecDepth 100000 in
theorem w_X2_next : (∀ (K : Kt OT) (n : Nat) (L : xL) (st : List Value) (S : OT), nx cod_X2_next cut_X2_next K (n + 1) 0 L st S = (O_aload 0 1) (nx cod_X2_next cut_X2_next K n) 0 L st S) ∧
  (∀ (K : Kt OT) (n : Nat) (L : xL) (st : List Value) (S : OT), nx cod_X2_next cut_X2_next K (n + 1) 1 L st S = (O_aload 0 1) (nx cod_X2_next cut_X2_next K n) 1 L st S) ∧
  (∀ (K : Kt OT) (n : Nat) (L : xL) (st : List Value) (S : OT), nx cod_X2_next cut_X2_next K (n + 1) 2 L st S = (O_getf oW 2 3) (nx cod_X2_next cut_X2_next K n) 2 L st S) ∧
  (∀ (K : Kt OT) (n : Nat) (L : xL) (st : List Value) (S : OT), nx cod_X2_next cut_X2_next K (n + 1) 5 L st S = (O_puti oW_p2_2) (nx cod_X2_next cut_X2_next K n) 5 L st S) ∧
  (∀ (K : Kt OT) (n : Nat) (L : xL) (st : List Value) (S : OT), nx cod_X2_next cut_X2_next K (n + 1) 8 L st S = (O_aload 0 1) (nx cod_X2_next cut_X2_next K n) 8 L st S) ∧
  (∀ (K : Kt OT) (n : Nat) (L : xL) (st : List Value) (S : OT), nx cod_X2_next cut_X2_next K (n + 1) 9 L st S = (O_dup) (nx cod_X2_next cut_X2_next K n) 9 L st S) ∧
  (∀ (K : Kt OT) (n : Nat) (L : xL) (st : List Value) (S : OT), nx cod_X2_next cut_X2_next K (n + 1) 10 L st S = (O_getf oW 2 4) (nx cod_X2_next cut_X2_next K n) 10 L st S) ∧
  (∀ (K : Kt OT) (n : Nat) (L : xL) (st : List Value) (S : OT), nx cod_X2_next cut_X2_next K (n + 1) 13 L st S = (O_int 1 1) (nx cod_X2_next cut_X2_next K n) 13 L st S) ∧
  (∀ (K : Kt OT) (n : Nat) (L : xL) (st : List Value) (S : OT), nx cod_X2_next cut_X2_next K (n + 1) 14 L st S = (O_iadd) (nx cod_X2_next cut_X2_next K n) 14 L st S) ∧
  (∀ (K : Kt OT) (n : Nat) (L : xL) (st : List Value) (S : OT), nx cod_X2_next cut_X2_next K (n + 1) 15 L st S = (O_puti oW_p2_4) (nx cod_X2_next cut_X2_next K n) 15 L st S) ∧
  (∀ (K : Kt OT) (n : Nat) (L : xL) (st : List Value) (S : OT), nx cod_X2_next cut_X2_next K (n + 1) 18 L st S = (O_vret) (nx cod_X2_next cut_X2_next K n) 18 L st S) ∧
  (∀ (K : Kt OT) (n : Nat) (L : xL) (st : List Value) (S : OT), nx cod_X2_next cut_X2_next K (n + 1) 100000 L st S = K 100000 L st S) := by
  repeat' apply And.intro
  all_goals (intros; rfl)
set_option maxRecDepth 100000 in
theorem mk_X2_next {P P' : OT} {r : Option Value}  (body : ∀ E : En, CodOk E oW cod_X2_next → Gd E oW 100000 [] r.toList P' → Gd E oW 0 [some (.ref 0)] [] P) : Con yX2_next cX2_next 1 none 0 oW [.ref 0] P r P' :=
  Con.of (by decide) rfl rfl (Nat.le_of_ble_eq_true rfl) (fun E F G hr => body E (okc_X2_next F G) hr)
theorem con_X2_next (S : OT)  : Con yX2_next cX2_next 1 none 0 oW [.ref 0] S (none) ((S.sPlace S.behind).sDone (S.done + 1)) := by
  refine mk_X2_next (fun E C hr => ?_)
  (refine nx_ok C (cuts := cut_X2_next) 1000 _ _ _ _ ?_; simp only [w_X2_next, ops_eq, xst_eq, call_eq, oK_eq, Option.toList_some, Option.toList_none, List.cons_append, List.nil_append, List.length_cons, List.length_nil, true_and, and_true, Nat.reduceAdd, oW_F, oW_A, oW_S, oW_P, OT_gs])
  ((repeat' (with_reducible first | apply And.intro | intro _)) <;> simp_all [OT_gs])
def sp_X2_next : Sp OT := fun av S K => match av with
  | [.ref 0] => K (none) ((S.sPlace S.behind).sDone (S.done + 1))
  | _ => False
theorem se_X2_next  (S : OT) (K : Option Value → OT → Prop) : sp_X2_next [.ref 0] S K = (K (none) ((S.sPlace S.behind).sDone (S.done + 1))) := rfl
theorem spok_X2_next : SpOk yX2_next cX2_next 1 none 0 oW sp_X2_next := by
  intro av S K h
  unfold sp_X2_next at h
  split at h
  · exact ⟨none, (S.sPlace S.behind).sDone (S.done + 1), trivial, con_X2_next S , h⟩
  · exact h.elim
def cod_X2_has : List (Nat × Op OT) := [(0, O_iload 1 1), (1, O_if_lt 16), (4, O_iload 1 1), (5, O_aload 0 1), (6, O_getf oW 2 1), (9, O_icmp_ge 16), (12, O_int 1 1), (13, O_goto 17), (16, O_int 0 1), (17, O_zret)]
abbrev cut_X2_has : List Nat := []
set_option maxRecDepth 100000 in
theorem okc_X2_has {E : En} (F : Fx E RX2 cX2_has 2 0) (G : Fr E (some .boolean)) : CodOk E oW cod_X2_has := by
  unfold CodOk cod_X2_has
  refine List.forall_mem_cons.mpr ⟨ok_iload_n F dX2_has_0 rfl (by decide), ?_⟩
  refine List.forall_mem_cons.mpr ⟨ok_if_lt F dX2_has_1 (by decide) (by decide) (by decide), ?_⟩
  refine List.forall_mem_cons.mpr ⟨ok_iload_n F dX2_has_4 rfl (by decide), ?_⟩
  refine List.forall_mem_cons.mpr ⟨ok_aload_n F dX2_has_5 rfl (by decide), ?_⟩
  refine List.forall_mem_cons.mpr ⟨ok_getf F flX2_13 dX2_has_6 (by decide), ?_⟩
  refine List.forall_mem_cons.mpr ⟨ok_icmp_ge F dX2_has_9 (by decide) (by decide) (by decide), ?_⟩
  refine List.forall_mem_cons.mpr ⟨ok_iconst F dX2_has_12 (by decide) (by decide), ?_⟩
  refine List.forall_mem_cons.mpr ⟨ok_goto F dX2_has_13 (by decide) (by decide) (by decide), ?_⟩
  refine List.forall_mem_cons.mpr ⟨ok_iconst F dX2_has_16 (by decide) (by decide), ?_⟩
  refine List.forall_mem_cons.mpr ⟨ok_zret F G dX2_has_17 (by decide), ?_⟩
  exact fun _ h => absurd h List.not_mem_nil
set_option maxRecDepth 100000 in
theorem w_X2_has : (∀ (K : Kt OT) (n : Nat) (L : xL) (st : List Value) (S : OT), nx cod_X2_has cut_X2_has K (n + 1) 0 L st S = (O_iload 1 1) (nx cod_X2_has cut_X2_has K n) 0 L st S) ∧
  (∀ (K : Kt OT) (n : Nat) (L : xL) (st : List Value) (S : OT), nx cod_X2_has cut_X2_has K (n + 1) 1 L st S = (O_if_lt 16) (nx cod_X2_has cut_X2_has K n) 1 L st S) ∧
  (∀ (K : Kt OT) (n : Nat) (L : xL) (st : List Value) (S : OT), nx cod_X2_has cut_X2_has K (n + 1) 4 L st S = (O_iload 1 1) (nx cod_X2_has cut_X2_has K n) 4 L st S) ∧
  (∀ (K : Kt OT) (n : Nat) (L : xL) (st : List Value) (S : OT), nx cod_X2_has cut_X2_has K (n + 1) 5 L st S = (O_aload 0 1) (nx cod_X2_has cut_X2_has K n) 5 L st S) ∧
  (∀ (K : Kt OT) (n : Nat) (L : xL) (st : List Value) (S : OT), nx cod_X2_has cut_X2_has K (n + 1) 6 L st S = (O_getf oW 2 1) (nx cod_X2_has cut_X2_has K n) 6 L st S) ∧
  (∀ (K : Kt OT) (n : Nat) (L : xL) (st : List Value) (S : OT), nx cod_X2_has cut_X2_has K (n + 1) 9 L st S = (O_icmp_ge 16) (nx cod_X2_has cut_X2_has K n) 9 L st S) ∧
  (∀ (K : Kt OT) (n : Nat) (L : xL) (st : List Value) (S : OT), nx cod_X2_has cut_X2_has K (n + 1) 12 L st S = (O_int 1 1) (nx cod_X2_has cut_X2_has K n) 12 L st S) ∧
  (∀ (K : Kt OT) (n : Nat) (L : xL) (st : List Value) (S : OT), nx cod_X2_has cut_X2_has K (n + 1) 13 L st S = (O_goto 17) (nx cod_X2_has cut_X2_has K n) 13 L st S) ∧
  (∀ (K : Kt OT) (n : Nat) (L : xL) (st : List Value) (S : OT), nx cod_X2_has cut_X2_has K (n + 1) 16 L st S = (O_int 0 1) (nx cod_X2_has cut_X2_has K n) 16 L st S) ∧
  (∀ (K : Kt OT) (n : Nat) (L : xL) (st : List Value) (S : OT), nx cod_X2_has cut_X2_has K (n + 1) 17 L st S = (O_zret) (nx cod_X2_has cut_X2_has K n) 17 L st S) ∧
  (∀ (K : Kt OT) (n : Nat) (L : xL) (st : List Value) (S : OT), nx cod_X2_has cut_X2_has K (n + 1) 100000 L st S = K 100000 L st S) := by
  repeat' apply And.intro
  all_goals (intros; rfl)
set_option maxRecDepth 100000 in
theorem mk_X2_has {P P' : OT} {r : Option Value} {p0 : Int32} (body : ∀ E : En, CodOk E oW cod_X2_has → Gd E oW 100000 [] r.toList P' → Gd E oW 0 [some (.ref 0), some (.int p0)] [] P) : Con yX2_has cX2_has 2 (some .boolean) 0 oW [.ref 0, .int p0] P r P' :=
  Con.of (by decide) rfl rfl (Nat.le_of_ble_eq_true rfl) (fun E F G hr => body E (okc_X2_has F G) hr)
theorem con_X2_has (S : OT) (p : Int32) : Con yX2_has cX2_has 2 (some .boolean) 0 oW [.ref 0, .int p] S (some (.int (bI (S.has p)))) (S) := by
  refine mk_X2_has (fun E C hr => ?_)
  (refine nx_ok C (cuts := cut_X2_has) 1000 _ _ _ _ ?_; simp only [w_X2_has, ops_eq, xst_eq, call_eq, oK_eq, Option.toList_some, Option.toList_none, List.cons_append, List.nil_append, List.length_cons, List.length_nil, true_and, and_true, Nat.reduceAdd, oW_F, oW_A, oW_S, oW_P, OT_gs, bI_eq])
  ((repeat' (with_reducible first | apply And.intro | intro _)) <;> simp_all [OT.has, bI, OT_gs])
def sp_X2_has : Sp OT := fun av S K => match av with
  | [.ref 0, .int p] => K (some (.int (bI (S.has p)))) (S)
  | _ => False
theorem se_X2_has (p : Int32) (S : OT) (K : Option Value → OT → Prop) : sp_X2_has [.ref 0, .int p] S K = (K (some (.int (bI (S.has p)))) (S)) := rfl
theorem spok_X2_has : SpOk yX2_has cX2_has 2 (some .boolean) 0 oW sp_X2_has := by
  intro av S K h
  unfold sp_X2_has at h
  split at h
  · rename_i p; exact ⟨some (.int (bI (S.has p))), S, trivial, con_X2_has S p, h⟩
  · exact h.elim
def OT.isL (S : OT) : Bool := decide (S.letter = 111 ∨ S.letter = 99 ∨ S.letter = 115 ∨ S.letter = 112)
theorem flX2_27 : fldOk RX2 27 2 5 = true := by decide +kernel
def cod_X2_isLetterOfNumber : List (Nat × Op OT) := [(0, O_aload 0 1), (1, O_getf oW 2 5), (4, O_int 111 2), (6, O_icmp_eq 36), (9, O_aload 0 1), (10, O_getf oW 2 5), (13, O_int 99 2), (15, O_icmp_eq 36), (18, O_aload 0 1), (19, O_getf oW 2 5), (22, O_int 115 2), (24, O_icmp_eq 36), (27, O_aload 0 1), (28, O_getf oW 2 5), (31, O_int 112 2), (33, O_icmp_ne 40), (36, O_int 1 1), (37, O_goto 41), (40, O_int 0 1), (41, O_zret)]
abbrev cut_X2_isLetterOfNumber : List Nat := []
set_option maxRecDepth 100000 in
theorem okc_X2_isLetterOfNumber {E : En} (F : Fx E RX2 cX2_isLetterOfNumber 1 0) (G : Fr E (some .boolean)) : CodOk E oW cod_X2_isLetterOfNumber := by
  unfold CodOk cod_X2_isLetterOfNumber
  refine List.forall_mem_cons.mpr ⟨ok_aload_n F dX2_isLetterOfNumber_0 rfl (by decide), ?_⟩
  refine List.forall_mem_cons.mpr ⟨ok_getf F flX2_27 dX2_isLetterOfNumber_1 (by decide), ?_⟩
  refine List.forall_mem_cons.mpr ⟨ok_bipush F dX2_isLetterOfNumber_4 (by decide) (by decide), ?_⟩
  refine List.forall_mem_cons.mpr ⟨ok_icmp_eq F dX2_isLetterOfNumber_6 (by decide) (by decide) (by decide), ?_⟩
  refine List.forall_mem_cons.mpr ⟨ok_aload_n F dX2_isLetterOfNumber_9 rfl (by decide), ?_⟩
  refine List.forall_mem_cons.mpr ⟨ok_getf F flX2_27 dX2_isLetterOfNumber_10 (by decide), ?_⟩
  refine List.forall_mem_cons.mpr ⟨ok_bipush F dX2_isLetterOfNumber_13 (by decide) (by decide), ?_⟩
  refine List.forall_mem_cons.mpr ⟨ok_icmp_eq F dX2_isLetterOfNumber_15 (by decide) (by decide) (by decide), ?_⟩
  refine List.forall_mem_cons.mpr ⟨ok_aload_n F dX2_isLetterOfNumber_18 rfl (by decide), ?_⟩
  refine List.forall_mem_cons.mpr ⟨ok_getf F flX2_27 dX2_isLetterOfNumber_19 (by decide), ?_⟩
  refine List.forall_mem_cons.mpr ⟨ok_bipush F dX2_isLetterOfNumber_22 (by decide) (by decide), ?_⟩
  refine List.forall_mem_cons.mpr ⟨ok_icmp_eq F dX2_isLetterOfNumber_24 (by decide) (by decide) (by decide), ?_⟩
  refine List.forall_mem_cons.mpr ⟨ok_aload_n F dX2_isLetterOfNumber_27 rfl (by decide), ?_⟩
  refine List.forall_mem_cons.mpr ⟨ok_getf F flX2_27 dX2_isLetterOfNumber_28 (by decide), ?_⟩
  refine List.forall_mem_cons.mpr ⟨ok_bipush F dX2_isLetterOfNumber_31 (by decide) (by decide), ?_⟩
  refine List.forall_mem_cons.mpr ⟨ok_icmp_ne F dX2_isLetterOfNumber_33 (by decide) (by decide) (by decide), ?_⟩
  refine List.forall_mem_cons.mpr ⟨ok_iconst F dX2_isLetterOfNumber_36 (by decide) (by decide), ?_⟩
  refine List.forall_mem_cons.mpr ⟨ok_goto F dX2_isLetterOfNumber_37 (by decide) (by decide) (by decide), ?_⟩
  refine List.forall_mem_cons.mpr ⟨ok_iconst F dX2_isLetterOfNumber_40 (by decide) (by decide), ?_⟩
  refine List.forall_mem_cons.mpr ⟨ok_zret F G dX2_isLetterOfNumber_41 (by decide), ?_⟩
  exact fun _ h => absurd h List.not_mem_nil
set_option maxRecDepth 100000 in
theorem w_X2_isLetterOfNumber : (∀ (K : Kt OT) (n : Nat) (L : xL) (st : List Value) (S : OT), nx cod_X2_isLetterOfNumber cut_X2_isLetterOfNumber K (n + 1) 0 L st S = (O_aload 0 1) (nx cod_X2_isLetterOfNumber cut_X2_isLetterOfNumber K n) 0 L st S) ∧
  (∀ (K : Kt OT) (n : Nat) (L : xL) (st : List Value) (S : OT), nx cod_X2_isLetterOfNumber cut_X2_isLetterOfNumber K (n + 1) 1 L st S = (O_getf oW 2 5) (nx cod_X2_isLetterOfNumber cut_X2_isLetterOfNumber K n) 1 L st S) ∧
  (∀ (K : Kt OT) (n : Nat) (L : xL) (st : List Value) (S : OT), nx cod_X2_isLetterOfNumber cut_X2_isLetterOfNumber K (n + 1) 4 L st S = (O_int 111 2) (nx cod_X2_isLetterOfNumber cut_X2_isLetterOfNumber K n) 4 L st S) ∧
  (∀ (K : Kt OT) (n : Nat) (L : xL) (st : List Value) (S : OT), nx cod_X2_isLetterOfNumber cut_X2_isLetterOfNumber K (n + 1) 6 L st S = (O_icmp_eq 36) (nx cod_X2_isLetterOfNumber cut_X2_isLetterOfNumber K n) 6 L st S) ∧
  (∀ (K : Kt OT) (n : Nat) (L : xL) (st : List Value) (S : OT), nx cod_X2_isLetterOfNumber cut_X2_isLetterOfNumber K (n + 1) 9 L st S = (O_aload 0 1) (nx cod_X2_isLetterOfNumber cut_X2_isLetterOfNumber K n) 9 L st S) ∧
  (∀ (K : Kt OT) (n : Nat) (L : xL) (st : List Value) (S : OT), nx cod_X2_isLetterOfNumber cut_X2_isLetterOfNumber K (n + 1) 10 L st S = (O_getf oW 2 5) (nx cod_X2_isLetterOfNumber cut_X2_isLetterOfNumber K n) 10 L st S) ∧
  (∀ (K : Kt OT) (n : Nat) (L : xL) (st : List Value) (S : OT), nx cod_X2_isLetterOfNumber cut_X2_isLetterOfNumber K (n + 1) 13 L st S = (O_int 99 2) (nx cod_X2_isLetterOfNumber cut_X2_isLetterOfNumber K n) 13 L st S) ∧
  (∀ (K : Kt OT) (n : Nat) (L : xL) (st : List Value) (S : OT), nx cod_X2_isLetterOfNumber cut_X2_isLetterOfNumber K (n + 1) 15 L st S = (O_icmp_eq 36) (nx cod_X2_isLetterOfNumber cut_X2_isLetterOfNumber K n) 15 L st S) ∧
  (∀ (K : Kt OT) (n : Nat) (L : xL) (st : List Value) (S : OT), nx cod_X2_isLetterOfNumber cut_X2_isLetterOfNumber K (n + 1) 18 L st S = (O_aload 0 1) (nx cod_X2_isLetterOfNumber cut_X2_isLetterOfNumber K n) 18 L st S) ∧
  (∀ (K : Kt OT) (n : Nat) (L : xL) (st : List Value) (S : OT), nx cod_X2_isLetterOfNumber cut_X2_isLetterOfNumber K (n + 1) 19 L st S = (O_getf oW 2 5) (nx cod_X2_isLetterOfNumber cut_X2_isLetterOfNumber K n) 19 L st S) ∧
  (∀ (K : Kt OT) (n : Nat) (L : xL) (st : List Value) (S : OT), nx cod_X2_isLetterOfNumber cut_X2_isLetterOfNumber K (n + 1) 22 L st S = (O_int 115 2) (nx cod_X2_isLetterOfNumber cut_X2_isLetterOfNumber K n) 22 L st S) ∧
  (∀ (K : Kt OT) (n : Nat) (L : xL) (st : List Value) (S : OT), nx cod_X2_isLetterOfNumber cut_X2_isLetterOfNumber K (n + 1) 24 L st S = (O_icmp_eq 36) (nx cod_X2_isLetterOfNumber cut_X2_isLetterOfNumber K n) 24 L st S) ∧
  (∀ (K : Kt OT) (n : Nat) (L : xL) (st : List Value) (S : OT), nx cod_X2_isLetterOfNumber cut_X2_isLetterOfNumber K (n + 1) 27 L st S = (O_aload 0 1) (nx cod_X2_isLetterOfNumber cut_X2_isLetterOfNumber K n) 27 L st S) ∧
  (∀ (K : Kt OT) (n : Nat) (L : xL) (st : List Value) (S : OT), nx cod_X2_isLetterOfNumber cut_X2_isLetterOfNumber K (n + 1) 28 L st S = (O_getf oW 2 5) (nx cod_X2_isLetterOfNumber cut_X2_isLetterOfNumber K n) 28 L st S) ∧
  (∀ (K : Kt OT) (n : Nat) (L : xL) (st : List Value) (S : OT), nx cod_X2_isLetterOfNumber cut_X2_isLetterOfNumber K (n + 1) 31 L st S = (O_int 112 2) (nx cod_X2_isLetterOfNumber cut_X2_isLetterOfNumber K n) 31 L st S) ∧
  (∀ (K : Kt OT) (n : Nat) (L : xL) (st : List Value) (S : OT), nx cod_X2_isLetterOfNumber cut_X2_isLetterOfNumber K (n + 1) 33 L st S = (O_icmp_ne 40) (nx cod_X2_isLetterOfNumber cut_X2_isLetterOfNumber K n) 33 L st S) ∧
  (∀ (K : Kt OT) (n : Nat) (L : xL) (st : List Value) (S : OT), nx cod_X2_isLetterOfNumber cut_X2_isLetterOfNumber K (n + 1) 36 L st S = (O_int 1 1) (nx cod_X2_isLetterOfNumber cut_X2_isLetterOfNumber K n) 36 L st S) ∧
  (∀ (K : Kt OT) (n : Nat) (L : xL) (st : List Value) (S : OT), nx cod_X2_isLetterOfNumber cut_X2_isLetterOfNumber K (n + 1) 37 L st S = (O_goto 41) (nx cod_X2_isLetterOfNumber cut_X2_isLetterOfNumber K n) 37 L st S) ∧
  (∀ (K : Kt OT) (n : Nat) (L : xL) (st : List Value) (S : OT), nx cod_X2_isLetterOfNumber cut_X2_isLetterOfNumber K (n + 1) 40 L st S = (O_int 0 1) (nx cod_X2_isLetterOfNumber cut_X2_isLetterOfNumber K n) 40 L st S) ∧
  (∀ (K : Kt OT) (n : Nat) (L : xL) (st : List Value) (S : OT), nx cod_X2_isLetterOfNumber cut_X2_isLetterOfNumber K (n + 1) 41 L st S = (O_zret) (nx cod_X2_isLetterOfNumber cut_X2_isLetterOfNumber K n) 41 L st S) ∧
  (∀ (K : Kt OT) (n : Nat) (L : xL) (st : List Value) (S : OT), nx cod_X2_isLetterOfNumber cut_X2_isLetterOfNumber K (n + 1) 100000 L st S = K 100000 L st S) := by
  repeat' apply And.intro
  all_goals (intros; rfl)
set_option maxRecDepth 100000 in
theorem mk_X2_isLetterOfNumber {P P' : OT} {r : Option Value}  (body : ∀ E : En, CodOk E oW cod_X2_isLetterOfNumber → Gd E oW 100000 [] r.toList P' → Gd E oW 0 [some (.ref 0)] [] P) : Con yX2_isLetterOfNumber cX2_isLetterOfNumber 1 (some .boolean) 0 oW [.ref 0] P r P' :=
  Con.of (by decide) rfl rfl (Nat.le_of_ble_eq_true rfl) (fun E F G hr => body E (okc_X2_isLetterOfNumber F G) hr)
theorem con_X2_isLetterOfNumber (S : OT)  : Con yX2_isLetterOfNumber cX2_isLetterOfNumber 1 (some .boolean) 0 oW [.ref 0] S (some (.int (bI S.isL))) (S) := by
  refine mk_X2_isLetterOfNumber (fun E C hr => ?_)
  (refine nx_ok C (cuts := cut_X2_isLetterOfNumber) 1000 _ _ _ _ ?_; simp only [w_X2_isLetterOfNumber, ops_eq, xst_eq, call_eq, oK_eq, Option.toList_some, Option.toList_none, List.cons_append, List.nil_append, List.length_cons, List.length_nil, true_and, and_true, Nat.reduceAdd, oW_F, oW_A, oW_S, oW_P, OT_gs, bI_eq])
  ((repeat' (with_reducible first | apply And.intro | intro _)) <;> simp_all [OT.isL, bI, OT_gs])
def sp_X2_isLetterOfNumber : Sp OT := fun av S K => match av with
  | [.ref 0] => K (some (.int (bI S.isL))) (S)
  | _ => False
theorem se_X2_isLetterOfNumber  (S : OT) (K : Option Value → OT → Prop) : sp_X2_isLetterOfNumber [.ref 0] S K = (K (some (.int (bI S.isL))) (S)) := rfl
theorem spok_X2_isLetterOfNumber : SpOk yX2_isLetterOfNumber cX2_isLetterOfNumber 1 (some .boolean) 0 oW sp_X2_isLetterOfNumber := by
  intro av S K h
  unfold sp_X2_isLetterOfNumber at h
  split at h
  · exact ⟨some (.int (bI S.isL)), S, trivial, con_X2_isLetterOfNumber S , h⟩
  · exact h.elim
def isDig (c : Int32) : Bool := decide (¬ c < 48 ∧ ¬ 57 < c)
def cod_X2_isDigit : List (Nat × Op Unit) := [(0, O_iload 0 1), (1, O_int 48 2), (3, O_icmp_lt 16), (6, O_iload 0 1), (7, O_int 57 2), (9, O_icmp_gt 16), (12, O_int 1 1), (13, O_goto 17), (16, O_int 0 1), (17, O_zret)]
abbrev cut_X2_isDigit : List Nat := []
set_option maxRecDepth 100000 in
theorem okc_X2_isDigit {E : En} (F : Fx E RX2 cX2_isDigit 1 0) (G : Fr E (some .boolean)) : CodOk E toU cod_X2_isDigit := by
  unfold CodOk cod_X2_isDigit
  refine List.forall_mem_cons.mpr ⟨ok_iload_n F dX2_isDigit_0 rfl (by decide), ?_⟩
  refine List.forall_mem_cons.mpr ⟨ok_bipush F dX2_isDigit_1 (by decide) (by decide), ?_⟩
  refine List.forall_mem_cons.mpr ⟨ok_icmp_lt F dX2_isDigit_3 (by decide) (by decide) (by decide), ?_⟩
  refine List.forall_mem_cons.mpr ⟨ok_iload_n F dX2_isDigit_6 rfl (by decide), ?_⟩
  refine List.forall_mem_cons.mpr ⟨ok_bipush F dX2_isDigit_7 (by decide) (by decide), ?_⟩
  refine List.forall_mem_cons.mpr ⟨ok_icmp_gt F dX2_isDigit_9 (by decide) (by decide) (by decide), ?_⟩
  refine List.forall_mem_cons.mpr ⟨ok_iconst F dX2_isDigit_12 (by decide) (by decide), ?_⟩
  refine List.forall_mem_cons.mpr ⟨ok_goto F dX2_isDigit_13 (by decide) (by decide) (by decide), ?_⟩
  refine List.forall_mem_cons.mpr ⟨ok_iconst F dX2_isDigit_16 (by decide) (by decide), ?_⟩
  refine List.forall_mem_cons.mpr ⟨ok_zret F G dX2_isDigit_17 (by decide), ?_⟩
  exact fun _ h => absurd h List.not_mem_nil
set_option maxRecDepth 100000 in
theorem w_X2_isDigit : (∀ (K : Kt Unit) (n : Nat) (L : xL) (st : List Value) (S : Unit), nx cod_X2_isDigit cut_X2_isDigit K (n + 1) 0 L st S = (O_iload 0 1) (nx cod_X2_isDigit cut_X2_isDigit K n) 0 L st S) ∧
  (∀ (K : Kt Unit) (n : Nat) (L : xL) (st : List Value) (S : Unit), nx cod_X2_isDigit cut_X2_isDigit K (n + 1) 1 L st S = (O_int 48 2) (nx cod_X2_isDigit cut_X2_isDigit K n) 1 L st S) ∧
  (∀ (K : Kt Unit) (n : Nat) (L : xL) (st : List Value) (S : Unit), nx cod_X2_isDigit cut_X2_isDigit K (n + 1) 3 L st S = (O_icmp_lt 16) (nx cod_X2_isDigit cut_X2_isDigit K n) 3 L st S) ∧
  (∀ (K : Kt Unit) (n : Nat) (L : xL) (st : List Value) (S : Unit), nx cod_X2_isDigit cut_X2_isDigit K (n + 1) 6 L st S = (O_iload 0 1) (nx cod_X2_isDigit cut_X2_isDigit K n) 6 L st S) ∧
  (∀ (K : Kt Unit) (n : Nat) (L : xL) (st : List Value) (S : Unit), nx cod_X2_isDigit cut_X2_isDigit K (n + 1) 7 L st S = (O_int 57 2) (nx cod_X2_isDigit cut_X2_isDigit K n) 7 L st S) ∧
  (∀ (K : Kt Unit) (n : Nat) (L : xL) (st : List Value) (S : Unit), nx cod_X2_isDigit cut_X2_isDigit K (n + 1) 9 L st S = (O_icmp_gt 16) (nx cod_X2_isDigit cut_X2_isDigit K n) 9 L st S) ∧
  (∀ (K : Kt Unit) (n : Nat) (L : xL) (st : List Value) (S : Unit), nx cod_X2_isDigit cut_X2_isDigit K (n + 1) 12 L st S = (O_int 1 1) (nx cod_X2_isDigit cut_X2_isDigit K n) 12 L st S) ∧
  (∀ (K : Kt Unit) (n : Nat) (L : xL) (st : List Value) (S : Unit), nx cod_X2_isDigit cut_X2_isDigit K (n + 1) 13 L st S = (O_goto 17) (nx cod_X2_isDigit cut_X2_isDigit K n) 13 L st S) ∧
  (∀ (K : Kt Unit) (n : Nat) (L : xL) (st : List Value) (S : Unit), nx cod_X2_isDigit cut_X2_isDigit K (n + 1) 16 L st S = (O_int 0 1) (nx cod_X2_isDigit cut_X2_isDigit K n) 16 L st S) ∧
  (∀ (K : Kt Unit) (n : Nat) (L : xL) (st : List Value) (S : Unit), nx cod_X2_isDigit cut_X2_isDigit K (n + 1) 17 L st S = (O_zret) (nx cod_X2_isDigit cut_X2_isDigit K n) 17 L st S) ∧
  (∀ (K : Kt Unit) (n : Nat) (L : xL) (st : List Value) (S : Unit), nx cod_X2_isDigit cut_X2_isDigit K (n + 1) 100000 L st S = K 100000 L st S) := by
  repeat' apply And.intro
  all_goals (intros; rfl)
set_option maxRecDepth 100000 in
theorem mk_X2_isDigit {P P' : Unit} {r : Option Value} {p0 : Int32} (body : ∀ E : En, CodOk E toU cod_X2_isDigit → Gd E toU 100000 [] r.toList P' → Gd E toU 0 [some (.int p0)] [] P) : Con yX2_isDigit cX2_isDigit 1 (some .boolean) 0 toU [.int p0] P r P' :=
  Con.of (by decide) rfl rfl (Nat.le_of_ble_eq_true rfl) (fun E F G hr => body E (okc_X2_isDigit F G) hr)
theorem con_X2_isDigit (S : Unit) (c : Int32) : Con yX2_isDigit cX2_isDigit 1 (some .boolean) 0 toU [.int c] S (some (.int (bI (isDig c)))) (S) := by
  refine mk_X2_isDigit (fun E C hr => ?_)
  (refine nx_ok C (cuts := cut_X2_isDigit) 1000 _ _ _ _ ?_; simp only [w_X2_isDigit, ops_eq, xst_eq, call_eq, oK_eq, Option.toList_some, Option.toList_none, List.cons_append, List.nil_append, List.length_cons, List.length_nil, true_and, and_true, Nat.reduceAdd, call_eq, bI_eq])
  ((repeat' (with_reducible first | apply And.intro | intro _)) <;> simp_all [isDig, bI])
def sp_X2_isDigit : Sp Unit := fun av S K => match av with
  | [.int c] => K (some (.int (bI (isDig c)))) (S)
  | _ => False
theorem se_X2_isDigit (c : Int32) (S : Unit) (K : Option Value → Unit → Prop) : sp_X2_isDigit [.int c] S K = (K (some (.int (bI (isDig c)))) (S)) := rfl
theorem spok_X2_isDigit : SpOk yX2_isDigit cX2_isDigit 1 (some .boolean) 0 toU sp_X2_isDigit := by
  intro av S K h
  unfold sp_X2_isDigit at h
  split at h
  · rename_i c; exact ⟨some (.int (bI (isDig c))), S, trivial, con_X2_isDigit S c, h⟩
  · exact h.elim
/-- reads the digits: at most f ones more; their number, the state -/
def OT.digs : Nat → Nat → OT → Nat × OT
  | 0, k, T => (k, T)
  | f + 1, k, T => if T.has T.behind = true ∧ isDig (T.text T.behind.toNatClampNeg) = true then OT.digs f (k + 1) ((T.sNumber (T.number * 10 + T.text T.behind.toNatClampNeg - 48)).sBehind (T.behind + 1)) else (k, T)
def OT.chars (S : OT) : Prop := ∀ i, i < 60 → chr (S.text i)
def OT.rd0 (S : OT) : OT := ((S.sLetter (S.text S.place.toNatClampNeg)).sNumber 0).sBehind (S.place + 1)
def OT.rd1 (k : Nat) (T : OT) : Bool := T.has T.behind && decide (T.text T.behind.toNatClampNeg = 59) && (if k = 0 then decide (T.letter = 114) else T.isL)
def OT.read (S : OT) : Bool × OT := if S.has S.place = false then (false, S) else ((OT.rd1 (OT.digs 3 0 S.rd0).1 (OT.digs 3 0 S.rd0).2), (OT.digs 3 0 S.rd0).2.sBehind ((OT.digs 3 0 S.rd0).2.behind + 1))
theorem n3 : ∀ k, k < 3 → nI k < 3 ∧ nI k + 1 = nI (k + 1) := by decide +kernel
theorem n3' : ∀ k, k < 4 → ((0 < nI k) = (¬ k = 0)) := by decide +kernel
theorem OT.digs_lt : ∀ (f k : Nat) (T : OT), k + f = 3 → (OT.digs f k T).1 < 4
  | 0, k, T, h => by show k < 4; omega
  | f + 1, k, T, h => by
    unfold OT.digs
    split
    · exact OT.digs_lt f (k + 1) _ (by omega)
    · show k < 4; omega
theorem OT.digs_text : ∀ (f k : Nat) (T : OT), (OT.digs f k T).2.text = T.text ∧ (OT.digs f k T).2.length = T.length ∧ (OT.digs f k T).2.letter = T.letter ∧ (OT.digs f k T).2.place = T.place ∧ (OT.digs f k T).2.done = T.done
  | 0, k, T => ⟨rfl, rfl, rfl, rfl, rfl⟩
  | f + 1, k, T => by
    unfold OT.digs
    split
    · exact OT.digs_text f (k + 1) _
    · exact ⟨rfl, rfl, rfl, rfl, rfl⟩
theorem OT.has_of {S T : OT} (h : T.length = S.length) (p : Int32) : T.has p = S.has p := by unfold OT.has; rw [h]
theorem flX2_31 : fldOk RX2 31 2 6 = true := by decide +kernel
def cod_X2_read : List (Nat × Op OT) := [(0, O_aload 0 1), (1, O_aload 0 1), (2, O_getf oW 2 2), (5, O_callV 1 0 (fun S => S) (fun _ S' => S') sp_X2_has), (8, O_if_ne 13), (11, O_int 0 1), (12, O_zret), (13, O_aload 0 1), (14, O_aload 0 1), (15, O_getf oW 2 0), (18, O_aload 0 1), (19, O_getf oW 2 2), (22, O_ald oW 2), (23, O_putn .char oW_p2_5), (26, O_aload 0 1), (27, O_int 0 1), (28, O_puti oW_p2_6), (31, O_aload 0 1), (32, O_aload 0 1), (33, O_getf oW 2 2), (36, O_int 1 1), (37, O_iadd), (38, O_puti oW_p2_3), (41, O_int 0 1), (42, O_istore 1 1), (43, O_iload 1 1), (44, O_int 3 1), (45, O_icmp_ge 114), (48, O_aload 0 1), (49, O_aload 0 1), (50, O_getf oW 2 3), (53, O_callV 1 0 (fun S => S) (fun _ S' => S') sp_X2_has), (56, O_if_eq 114), (59, O_aload 0 1), (60, O_getf oW 2 0), (63, O_aload 0 1), (64, O_getf oW 2 3), (67, O_ald oW 2), (68, O_callS 1 sp_X2_isDigit), (71, O_if_eq 114), (74, O_aload 0 1), (75, O_aload 0 1), (76, O_getf oW 2 6), (79, O_int 10 2), (81, O_imul), (82, O_aload 0 1), (83, O_getf oW 2 0), (86, O_aload 0 1), (87, O_getf oW 2 3), (90, O_ald oW 2), (91, O_iadd), (92, O_int 48 2), (94, O_isub), (95, O_puti oW_p2_6), (98, O_iinc 1 1), (101, O_aload 0 1), (102, O_dup), (103, O_getf oW 2 3), (106, O_int 1 1), (107, O_iadd), (108, O_puti oW_p2_3), (111, O_goto 43), (114, O_aload 0 1), (115, O_aload 0 1), (116, O_getf oW 2 3), (119, O_callV 1 0 (fun S => S) (fun _ S' => S') sp_X2_has), (122, O_if_eq 143), (125, O_aload 0 1), (126, O_getf oW 2 0), (129, O_aload 0 1), (130, O_getf oW 2 3), (133, O_ald oW 2), (134, O_int 59 2), (136, O_icmp_ne 143), (139, O_int 1 1), (140, O_goto 144), (143, O_int 0 1), (144, O_istore 2 1), (145, O_aload 0 1), (146, O_dup), (147, O_getf oW 2 3), (150, O_int 1 1), (151, O_iadd), (152, O_puti oW_p2_3), (155, O_iload 2 1), (156, O_if_eq 186), (159, O_iload 1 1), (160, O_if_le 173), (163, O_aload 0 1), (164, O_callV 0 0 (fun S => S) (fun _ S' => S') sp_X2_isLetterOfNumber), (167, O_if_eq 186), (170, O_goto 182), (173, O_aload 0 1), (174, O_getf oW 2 5), (177, O_int 114 2), (179, O_icmp_ne 186), (182, O_int 1 1), (183, O_goto 187), (186, O_int 0 1), (187, O_zret)]
abbrev cut_X2_read : List Nat := [43, 114]
set_option maxRecDepth 100000 in
theorem okc_X2_read {E : En} (F : Fx E RX2 cX2_read 3 1) (G : Fr E (some .boolean)) : CodOk E oW cod_X2_read := by
  unfold CodOk cod_X2_read
  refine List.forall_mem_cons.mpr ⟨ok_aload_n F dX2_read_0 rfl (by decide), ?_⟩
  refine List.forall_mem_cons.mpr ⟨ok_aload_n F dX2_read_1 rfl (by decide), ?_⟩
  refine List.forall_mem_cons.mpr ⟨ok_getf F flX2_17 dX2_read_2 (by decide), ?_⟩
  refine List.forall_mem_cons.mpr ⟨ok_callV F spok_X2_has (ln_id oW) rcv_oW (by decide +kernel) (by decide) dX2_read_5 (by decide), ?_⟩
  refine List.forall_mem_cons.mpr ⟨ok_if_ne F dX2_read_8 (by decide) (by decide) (by decide), ?_⟩
  refine List.forall_mem_cons.mpr ⟨ok_iconst F dX2_read_11 (by decide) (by decide), ?_⟩
  refine List.forall_mem_cons.mpr ⟨ok_zret F G dX2_read_12 (by decide), ?_⟩
  refine List.forall_mem_cons.mpr ⟨ok_aload_n F dX2_read_13 rfl (by decide), ?_⟩
  refine List.forall_mem_cons.mpr ⟨ok_aload_n F dX2_read_14 rfl (by decide), ?_⟩
  refine List.forall_mem_cons.mpr ⟨ok_getf F flX2_9 dX2_read_15 (by decide), ?_⟩
  refine List.forall_mem_cons.mpr ⟨ok_aload_n F dX2_read_18 rfl (by decide), ?_⟩
  refine List.forall_mem_cons.mpr ⟨ok_getf F flX2_17 dX2_read_19 (by decide), ?_⟩
  refine List.forall_mem_cons.mpr ⟨ok_cald F dX2_read_22 (by decide), ?_⟩
  refine List.forall_mem_cons.mpr ⟨ok_putn F oW_p2_5_ok (fun _ _ _ h => by cases h; rfl) rfl flX2_27 dX2_read_23 (by decide), ?_⟩
  refine List.forall_mem_cons.mpr ⟨ok_aload_n F dX2_read_26 rfl (by decide), ?_⟩
  refine List.forall_mem_cons.mpr ⟨ok_iconst F dX2_read_27 (by decide) (by decide), ?_⟩
  refine List.forall_mem_cons.mpr ⟨ok_puti F oW_p2_6_ok (fun _ _ _ h => by cases h; rfl) rfl flX2_31 dX2_read_28 (by decide), ?_⟩
  refine List.forall_mem_cons.mpr ⟨ok_aload_n F dX2_read_31 rfl (by decide), ?_⟩
  refine List.forall_mem_cons.mpr ⟨ok_aload_n F dX2_read_32 rfl (by decide), ?_⟩
  refine List.forall_mem_cons.mpr ⟨ok_getf F flX2_17 dX2_read_33 (by decide), ?_⟩
  refine List.forall_mem_cons.mpr ⟨ok_iconst F dX2_read_36 (by decide) (by decide), ?_⟩
  refine List.forall_mem_cons.mpr ⟨ok_iadd F dX2_read_37 (by decide), ?_⟩
  refine List.forall_mem_cons.mpr ⟨ok_puti F oW_p2_3_ok (fun _ _ _ h => by cases h; rfl) rfl flX2_34 dX2_read_38 (by decide), ?_⟩
  refine List.forall_mem_cons.mpr ⟨ok_iconst F dX2_read_41 (by decide) (by decide), ?_⟩
  refine List.forall_mem_cons.mpr ⟨ok_istore_n F dX2_read_42 rfl (by decide) (by decide), ?_⟩
  refine List.forall_mem_cons.mpr ⟨ok_iload_n F dX2_read_43 rfl (by decide), ?_⟩
  refine List.forall_mem_cons.mpr ⟨ok_iconst F dX2_read_44 (by decide) (by decide), ?_⟩
  refine List.forall_mem_cons.mpr ⟨ok_icmp_ge F dX2_read_45 (by decide) (by decide) (by decide), ?_⟩
  refine List.forall_mem_cons.mpr ⟨ok_aload_n F dX2_read_48 rfl (by decide), ?_⟩
  refine List.forall_mem_cons.mpr ⟨ok_aload_n F dX2_read_49 rfl (by decide), ?_⟩
  refine List.forall_mem_cons.mpr ⟨ok_getf F flX2_34 dX2_read_50 (by decide), ?_⟩
  refine List.forall_mem_cons.mpr ⟨ok_callV F spok_X2_has (ln_id oW) rcv_oW (by decide +kernel) (by decide) dX2_read_53 (by decide), ?_⟩
  refine List.forall_mem_cons.mpr ⟨ok_if_eq F dX2_read_56 (by decide) (by decide) (by decide), ?_⟩
  refine List.forall_mem_cons.mpr ⟨ok_aload_n F dX2_read_59 rfl (by decide), ?_⟩
  refine List.forall_mem_cons.mpr ⟨ok_getf F flX2_9 dX2_read_60 (by decide), ?_⟩
  refine List.forall_mem_cons.mpr ⟨ok_aload_n F dX2_read_63 rfl (by decide), ?_⟩
  refine List.forall_mem_cons.mpr ⟨ok_getf F flX2_34 dX2_read_64 (by decide), ?_⟩
  refine List.forall_mem_cons.mpr ⟨ok_cald F dX2_read_67 (by decide), ?_⟩
  refine List.forall_mem_cons.mpr ⟨ok_callS F spok_X2_isDigit (by decide +kernel) rfl (by decide) dX2_read_68 (by decide), ?_⟩
  refine List.forall_mem_cons.mpr ⟨ok_if_eq F dX2_read_71 (by decide) (by decide) (by decide), ?_⟩
  refine List.forall_mem_cons.mpr ⟨ok_aload_n F dX2_read_74 rfl (by decide), ?_⟩
  refine List.forall_mem_cons.mpr ⟨ok_aload_n F dX2_read_75 rfl (by decide), ?_⟩
  refine List.forall_mem_cons.mpr ⟨ok_getf F flX2_31 dX2_read_76 (by decide), ?_⟩
  refine List.forall_mem_cons.mpr ⟨ok_bipush F dX2_read_79 (by decide) (by decide), ?_⟩
  refine List.forall_mem_cons.mpr ⟨ok_imul F dX2_read_81 (by decide), ?_⟩
  refine List.forall_mem_cons.mpr ⟨ok_aload_n F dX2_read_82 rfl (by decide), ?_⟩
  refine List.forall_mem_cons.mpr ⟨ok_getf F flX2_9 dX2_read_83 (by decide), ?_⟩
  refine List.forall_mem_cons.mpr ⟨ok_aload_n F dX2_read_86 rfl (by decide), ?_⟩
  refine List.forall_mem_cons.mpr ⟨ok_getf F flX2_34 dX2_read_87 (by decide), ?_⟩
  refine List.forall_mem_cons.mpr ⟨ok_cald F dX2_read_90 (by decide), ?_⟩
  refine List.forall_mem_cons.mpr ⟨ok_iadd F dX2_read_91 (by decide), ?_⟩
  refine List.forall_mem_cons.mpr ⟨ok_bipush F dX2_read_92 (by decide) (by decide), ?_⟩
  refine List.forall_mem_cons.mpr ⟨ok_isub F dX2_read_94 (by decide), ?_⟩
  refine List.forall_mem_cons.mpr ⟨ok_puti F oW_p2_6_ok (fun _ _ _ h => by cases h; rfl) rfl flX2_31 dX2_read_95 (by decide), ?_⟩
  refine List.forall_mem_cons.mpr ⟨ok_iinc F dX2_read_98 (by decide) (by decide) (by decide), ?_⟩
  refine List.forall_mem_cons.mpr ⟨ok_aload_n F dX2_read_101 rfl (by decide), ?_⟩
  refine List.forall_mem_cons.mpr ⟨ok_dup F dX2_read_102 (by decide), ?_⟩
  refine List.forall_mem_cons.mpr ⟨ok_getf F flX2_34 dX2_read_103 (by decide), ?_⟩
  refine List.forall_mem_cons.mpr ⟨ok_iconst F dX2_read_106 (by decide) (by decide), ?_⟩
  refine List.forall_mem_cons.mpr ⟨ok_iadd F dX2_read_107 (by decide), ?_⟩
  refine List.forall_mem_cons.mpr ⟨ok_puti F oW_p2_3_ok (fun _ _ _ h => by cases h; rfl) rfl flX2_34 dX2_read_108 (by decide), ?_⟩
  refine List.forall_mem_cons.mpr ⟨ok_goto F dX2_read_111 (by decide) (by decide) (by decide), ?_⟩
  refine List.forall_mem_cons.mpr ⟨ok_aload_n F dX2_read_114 rfl (by decide), ?_⟩
  refine List.forall_mem_cons.mpr ⟨ok_aload_n F dX2_read_115 rfl (by decide), ?_⟩
  refine List.forall_mem_cons.mpr ⟨ok_getf F flX2_34 dX2_read_116 (by decide), ?_⟩
  refine List.forall_mem_cons.mpr ⟨ok_callV F spok_X2_has (ln_id oW) rcv_oW (by decide +kernel) (by decide) dX2_read_119 (by decide), ?_⟩
  refine List.forall_mem_cons.mpr ⟨ok_if_eq F dX2_read_122 (by decide) (by decide) (by decide), ?_⟩
  refine List.forall_mem_cons.mpr ⟨ok_aload_n F dX2_read_125 rfl (by decide), ?_⟩
  refine List.forall_mem_cons.mpr ⟨ok_getf F flX2_9 dX2_read_126 (by decide), ?_⟩
  refine List.forall_mem_cons.mpr ⟨ok_aload_n F dX2_read_129 rfl (by decide), ?_⟩
  refine List.forall_mem_cons.mpr ⟨ok_getf F flX2_34 dX2_read_130 (by decide), ?_⟩
  refine List.forall_mem_cons.mpr ⟨ok_cald F dX2_read_133 (by decide), ?_⟩
  refine List.forall_mem_cons.mpr ⟨ok_bipush F dX2_read_134 (by decide) (by decide), ?_⟩
  refine List.forall_mem_cons.mpr ⟨ok_icmp_ne F dX2_read_136 (by decide) (by decide) (by decide), ?_⟩
  refine List.forall_mem_cons.mpr ⟨ok_iconst F dX2_read_139 (by decide) (by decide), ?_⟩
  refine List.forall_mem_cons.mpr ⟨ok_goto F dX2_read_140 (by decide) (by decide) (by decide), ?_⟩
  refine List.forall_mem_cons.mpr ⟨ok_iconst F dX2_read_143 (by decide) (by decide), ?_⟩
  refine List.forall_mem_cons.mpr ⟨ok_istore_n F dX2_read_144 rfl (by decide) (by decide), ?_⟩
  refine List.forall_mem_cons.mpr ⟨ok_aload_n F dX2_read_145 rfl (by decide), ?_⟩
  refine List.forall_mem_cons.mpr ⟨ok_dup F dX2_read_146 (by decide), ?_⟩
  refine List.forall_mem_cons.mpr ⟨ok_getf F flX2_34 dX2_read_147 (by decide), ?_⟩
  refine List.forall_mem_cons.mpr ⟨ok_iconst F dX2_read_150 (by decide) (by decide), ?_⟩
  refine List.forall_mem_cons.mpr ⟨ok_iadd F dX2_read_151 (by decide), ?_⟩
  refine List.forall_mem_cons.mpr ⟨ok_puti F oW_p2_3_ok (fun _ _ _ h => by cases h; rfl) rfl flX2_34 dX2_read_152 (by decide), ?_⟩
  refine List.forall_mem_cons.mpr ⟨ok_iload_n F dX2_read_155 rfl (by decide), ?_⟩
  refine List.forall_mem_cons.mpr ⟨ok_if_eq F dX2_read_156 (by decide) (by decide) (by decide), ?_⟩
  refine List.forall_mem_cons.mpr ⟨ok_iload_n F dX2_read_159 rfl (by decide), ?_⟩
  refine List.forall_mem_cons.mpr ⟨ok_if_le F dX2_read_160 (by decide) (by decide) (by decide), ?_⟩
  refine List.forall_mem_cons.mpr ⟨ok_aload_n F dX2_read_163 rfl (by decide), ?_⟩
  refine List.forall_mem_cons.mpr ⟨ok_callV F spok_X2_isLetterOfNumber (ln_id oW) rcv_oW (by decide +kernel) (by decide) dX2_read_164 (by decide), ?_⟩
  refine List.forall_mem_cons.mpr ⟨ok_if_eq F dX2_read_167 (by decide) (by decide) (by decide), ?_⟩
  refine List.forall_mem_cons.mpr ⟨ok_goto F dX2_read_170 (by decide) (by decide) (by decide), ?_⟩
  refine List.forall_mem_cons.mpr ⟨ok_aload_n F dX2_read_173 rfl (by decide), ?_⟩
  refine List.forall_mem_cons.mpr ⟨ok_getf F flX2_27 dX2_read_174 (by decide), ?_⟩
  refine List.forall_mem_cons.mpr ⟨ok_bipush F dX2_read_177 (by decide) (by decide), ?_⟩
  refine List.forall_mem_cons.mpr ⟨ok_icmp_ne F dX2_read_179 (by decide) (by decide) (by decide), ?_⟩
  refine List.forall_mem_cons.mpr ⟨ok_iconst F dX2_read_182 (by decide) (by decide), ?_⟩
  refine List.forall_mem_cons.mpr ⟨ok_goto F dX2_read_183 (by decide) (by decide) (by decide), ?_⟩
  refine List.forall_mem_cons.mpr ⟨ok_iconst F dX2_read_186 (by decide) (by decide), ?_⟩
  refine List.forall_mem_cons.mpr ⟨ok_zret F G dX2_read_187 (by decide), ?_⟩
  exact fun _ h => absurd h List.not_mem_nil
set_option maxRecDepth 100000 in
theorem w_X2_read : (∀ (K : Kt OT) (n : Nat) (L : xL) (st : List Value) (S : OT), nx cod_X2_read cut_X2_read K (n + 1) 0 L st S = (O_aload 0 1) (nx cod_X2_read cut_X2_read K n) 0 L st S) ∧
  (∀ (K : Kt OT) (n : Nat) (L : xL) (st : List Value) (S : OT), nx cod_X2_read cut_X2_read K (n + 1) 1 L st S = (O_aload 0 1) (nx cod_X2_read cut_X2_read K n) 1 L st S) ∧
  (∀ (K : Kt OT) (n : Nat) (L : xL) (st : List Value) (S : OT), nx cod_X2_read cut_X2_read K (n + 1) 2 L st S = (O_getf oW 2 2) (nx cod_X2_read cut_X2_read K n) 2 L st S) ∧
  (∀ (K : Kt OT) (n : Nat) (L : xL) (st : List Value) (S : OT), nx cod_X2_read cut_X2_read K (n + 1) 5 L st S = (O_callV 1 0 (fun S => S) (fun _ S' => S') sp_X2_has) (nx cod_X2_read cut_X2_read K n) 5 L st S) ∧
  (∀ (K : Kt OT) (n : Nat) (L : xL) (st : List Value) (S : OT), nx cod_X2_read cut_X2_read K (n + 1) 8 L st S = (O_if_ne 13) (nx cod_X2_read cut_X2_read K n) 8 L st S) ∧
  (∀ (K : Kt OT) (n : Nat) (L : xL) (st : List Value) (S : OT), nx cod_X2_read cut_X2_read K (n + 1) 11 L st S = (O_int 0 1) (nx cod_X2_read cut_X2_read K n) 11 L st S) ∧
  (∀ (K : Kt OT) (n : Nat) (L : xL) (st : List Value) (S : OT), nx cod_X2_read cut_X2_read K (n + 1) 12 L st S = (O_zret) (nx cod_X2_read cut_X2_read K n) 12 L st S) ∧
  (∀ (K : Kt OT) (n : Nat) (L : xL) (st : List Value) (S : OT), nx cod_X2_read cut_X2_read K (n + 1) 13 L st S = (O_aload 0 1) (nx cod_X2_read cut_X2_read K n) 13 L st S) ∧
  (∀ (K : Kt OT) (n : Nat) (L : xL) (st : List Value) (S : OT), nx cod_X2_read cut_X2_read K (n + 1) 14 L st S = (O_aload 0 1) (nx cod_X2_read cut_X2_read K n) 14 L st S) ∧
  (∀ (K : Kt OT) (n : Nat) (L : xL) (st : List Value) (S : OT), nx cod_X2_read cut_X2_read K (n + 1) 15 L st S = (O_getf oW 2 0) (nx cod_X2_read cut_X2_read K n) 15 L st S) ∧
  (∀ (K : Kt OT) (n : Nat) (L : xL) (st : List Value) (S : OT), nx cod_X2_read cut_X2_read K (n + 1) 18 L st S = (O_aload 0 1) (nx cod_X2_read cut_X2_read K n) 18 L st S) ∧
  (∀ (K : Kt OT) (n : Nat) (L : xL) (st : List Value) (S : OT), nx cod_X2_read cut_X2_read K (n + 1) 19 L st S = (O_getf oW 2 2) (nx cod_X2_read cut_X2_read K n) 19 L st S) ∧
  (∀ (K : Kt OT) (n : Nat) (L : xL) (st : List Value) (S : OT), nx cod_X2_read cut_X2_read K (n + 1) 22 L st S = (O_ald oW 2) (nx cod_X2_read cut_X2_read K n) 22 L st S) ∧
  (∀ (K : Kt OT) (n : Nat) (L : xL) (st : List Value) (S : OT), nx cod_X2_read cut_X2_read K (n + 1) 23 L st S = (O_putn .char oW_p2_5) (nx cod_X2_read cut_X2_read K n) 23 L st S) ∧
  (∀ (K : Kt OT) (n : Nat) (L : xL) (st : List Value) (S : OT), nx cod_X2_read cut_X2_read K (n + 1) 26 L st S = (O_aload 0 1) (nx cod_X2_read cut_X2_read K n) 26 L st S) ∧
  (∀ (K : Kt OT) (n : Nat) (L : xL) (st : List Value) (S : OT), nx cod_X2_read cut_X2_read K (n + 1) 27 L st S = (O_int 0 1) (nx cod_X2_read cut_X2_read K n) 27 L st S) ∧
  (∀ (K : Kt OT) (n : Nat) (L : xL) (st : List Value) (S : OT), nx cod_X2_read cut_X2_read K (n + 1) 28 L st S = (O_puti oW_p2_6) (nx cod_X2_read cut_X2_read K n) 28 L st S) ∧
  (∀ (K : Kt OT) (n : Nat) (L : xL) (st : List Value) (S : OT), nx cod_X2_read cut_X2_read K (n + 1) 31 L st S = (O_aload 0 1) (nx cod_X2_read cut_X2_read K n) 31 L st S) ∧
  (∀ (K : Kt OT) (n : Nat) (L : xL) (st : List Value) (S : OT), nx cod_X2_read cut_X2_read K (n + 1) 32 L st S = (O_aload 0 1) (nx cod_X2_read cut_X2_read K n) 32 L st S) ∧
  (∀ (K : Kt OT) (n : Nat) (L : xL) (st : List Value) (S : OT), nx cod_X2_read cut_X2_read K (n + 1) 33 L st S = (O_getf oW 2 2) (nx cod_X2_read cut_X2_read K n) 33 L st S) ∧
  (∀ (K : Kt OT) (n : Nat) (L : xL) (st : List Value) (S : OT), nx cod_X2_read cut_X2_read K (n + 1) 36 L st S = (O_int 1 1) (nx cod_X2_read cut_X2_read K n) 36 L st S) ∧
  (∀ (K : Kt OT) (n : Nat) (L : xL) (st : List Value) (S : OT), nx cod_X2_read cut_X2_read K (n + 1) 37 L st S = (O_iadd) (nx cod_X2_read cut_X2_read K n) 37 L st S) ∧
  (∀ (K : Kt OT) (n : Nat) (L : xL) (st : List Value) (S : OT), nx cod_X2_read cut_X2_read K (n + 1) 38 L st S = (O_puti oW_p2_3) (nx cod_X2_read cut_X2_read K n) 38 L st S) ∧
  (∀ (K : Kt OT) (n : Nat) (L : xL) (st : List Value) (S : OT), nx cod_X2_read cut_X2_read K (n + 1) 41 L st S = (O_int 0 1) (nx cod_X2_read cut_X2_read K n) 41 L st S) ∧
  (∀ (K : Kt OT) (n : Nat) (L : xL) (st : List Value) (S : OT), nx cod_X2_read cut_X2_read K (n + 1) 42 L st S = (O_istore 1 1) (nx cod_X2_read cut_X2_read K n) 42 L st S) ∧
  (∀ (K : Kt OT) (n : Nat) (L : xL) (st : List Value) (S : OT), nx cod_X2_read cut_X2_read K (n + 1) 43 L st S = K 43 L st S) ∧
  (∀ (K : Kt OT) (n : Nat) (L : xL) (st : List Value) (S : OT), nx1 cod_X2_read cut_X2_read K n 43 L st S = (O_iload 1 1) (nx cod_X2_read cut_X2_read K n) 43 L st S) ∧
  (∀ (K : Kt OT) (n : Nat) (L : xL) (st : List Value) (S : OT), nx cod_X2_read cut_X2_read K (n + 1) 44 L st S = (O_int 3 1) (nx cod_X2_read cut_X2_read K n) 44 L st S) ∧
  (∀ (K : Kt OT) (n : Nat) (L : xL) (st : List Value) (S : OT), nx cod_X2_read cut_X2_read K (n + 1) 45 L st S = (O_icmp_ge 114) (nx cod_X2_read cut_X2_read K n) 45 L st S) ∧
  (∀ (K : Kt OT) (n : Nat) (L : xL) (st : List Value) (S : OT), nx cod_X2_read cut_X2_read K (n + 1) 48 L st S = (O_aload 0 1) (nx cod_X2_read cut_X2_read K n) 48 L st S) ∧
  (∀ (K : Kt OT) (n : Nat) (L : xL) (st : List Value) (S : OT), nx cod_X2_read cut_X2_read K (n + 1) 49 L st S = (O_aload 0 1) (nx cod_X2_read cut_X2_read K n) 49 L st S) ∧
  (∀ (K : Kt OT) (n : Nat) (L : xL) (st : List Value) (S : OT), nx cod_X2_read cut_X2_read K (n + 1) 50 L st S = (O_getf oW 2 3) (nx cod_X2_read cut_X2_read K n) 50 L st S) ∧
  (∀ (K : Kt OT) (n : Nat) (L : xL) (st : List Value) (S : OT), nx cod_X2_read cut_X2_read K (n + 1) 53 L st S = (O_callV 1 0 (fun S => S) (fun _ S' => S') sp_X2_has) (nx cod_X2_read cut_X2_read K n) 53 L st S) ∧
  (∀ (K : Kt OT) (n : Nat) (L : xL) (st : List Value) (S : OT), nx cod_X2_read cut_X2_read K (n + 1) 56 L st S = (O_if_eq 114) (nx cod_X2_read cut_X2_read K n) 56 L st S) ∧
  (∀ (K : Kt OT) (n : Nat) (L : xL) (st : List Value) (S : OT), nx cod_X2_read cut_X2_read K (n + 1) 59 L st S = (O_aload 0 1) (nx cod_X2_read cut_X2_read K n) 59 L st S) ∧
  (∀ (K : Kt OT) (n : Nat) (L : xL) (st : List Value) (S : OT), nx cod_X2_read cut_X2_read K (n + 1) 60 L st S = (O_getf oW 2 0) (nx cod_X2_read cut_X2_read K n) 60 L st S) ∧
  (∀ (K : Kt OT) (n : Nat) (L : xL) (st : List Value) (S : OT), nx cod_X2_read cut_X2_read K (n + 1) 63 L st S = (O_aload 0 1) (nx cod_X2_read cut_X2_read K n) 63 L st S) ∧
  (∀ (K : Kt OT) (n : Nat) (L : xL) (st : List Value) (S : OT), nx cod_X2_read cut_X2_read K (n + 1) 64 L st S = (O_getf oW 2 3) (nx cod_X2_read cut_X2_read K n) 64 L st S) ∧
  (∀ (K : Kt OT) (n : Nat) (L : xL) (st : List Value) (S : OT), nx cod_X2_read cut_X2_read K (n + 1) 67 L st S = (O_ald oW 2) (nx cod_X2_read cut_X2_read K n) 67 L st S) ∧
  (∀ (K : Kt OT) (n : Nat) (L : xL) (st : List Value) (S : OT), nx cod_X2_read cut_X2_read K (n + 1) 68 L st S = (O_callS 1 sp_X2_isDigit) (nx cod_X2_read cut_X2_read K n) 68 L st S) ∧
  (∀ (K : Kt OT) (n : Nat) (L : xL) (st : List Value) (S : OT), nx cod_X2_read cut_X2_read K (n + 1) 71 L st S = (O_if_eq 114) (nx cod_X2_read cut_X2_read K n) 71 L st S) ∧
  (∀ (K : Kt OT) (n : Nat) (L : xL) (st : List Value) (S : OT), nx cod_X2_read cut_X2_read K (n + 1) 74 L st S = (O_aload 0 1) (nx cod_X2_read cut_X2_read K n) 74 L st S) ∧
  (∀ (K : Kt OT) (n : Nat) (L : xL) (st : List Value) (S : OT), nx cod_X2_read cut_X2_read K (n + 1) 75 L st S = (O_aload 0 1) (nx cod_X2_read cut_X2_read K n) 75 L st S) ∧
  (∀ (K : Kt OT) (n : Nat) (L : xL) (st : List Value) (S : OT), nx cod_X2_read cut_X2_read K (n + 1) 76 L st S = (O_getf oW 2 6) (nx cod_X2_read cut_X2_read K n) 76 L st S) ∧
  (∀ (K : Kt OT) (n : Nat) (L : xL) (st : List Value) (S : OT), nx cod_X2_read cut_X2_read K (n + 1) 79 L st S = (O_int 10 2) (nx cod_X2_read cut_X2_read K n) 79 L st S) ∧
  (∀ (K : Kt OT) (n : Nat) (L : xL) (st : List Value) (S : OT), nx cod_X2_read cut_X2_read K (n + 1) 81 L st S = (O_imul) (nx cod_X2_read cut_X2_read K n) 81 L st S) ∧
  (∀ (K : Kt OT) (n : Nat) (L : xL) (st : List Value) (S : OT), nx cod_X2_read cut_X2_read K (n + 1) 82 L st S = (O_aload 0 1) (nx cod_X2_read cut_X2_read K n) 82 L st S) ∧
  (∀ (K : Kt OT) (n : Nat) (L : xL) (st : List Value) (S : OT), nx cod_X2_read cut_X2_read K (n + 1) 83 L st S = (O_getf oW 2 0) (nx cod_X2_read cut_X2_read K n) 83 L st S) ∧
  (∀ (K : Kt OT) (n : Nat) (L : xL) (st : List Value) (S : OT), nx cod_X2_read cut_X2_read K (n + 1) 86 L st S = (O_aload 0 1) (nx cod_X2_read cut_X2_read K n) 86 L st S) ∧
  (∀ (K : Kt OT) (n : Nat) (L : xL) (st : List Value) (S : OT), nx cod_X2_read cut_X2_read K (n + 1) 87 L st S = (O_getf oW 2 3) (nx cod_X2_read cut_X2_read K n) 87 L st S) ∧
  (∀ (K : Kt OT) (n : Nat) (L : xL) (st : List Value) (S : OT), nx cod_X2_read cut_X2_read K (n + 1) 90 L st S = (O_ald oW 2) (nx cod_X2_read cut_X2_read K n) 90 L st S) ∧
  (∀ (K : Kt OT) (n : Nat) (L : xL) (st : List Value) (S : OT), nx cod_X2_read cut_X2_read K (n + 1) 91 L st S = (O_iadd) (nx cod_X2_read cut_X2_read K n) 91 L st S) ∧
  (∀ (K : Kt OT) (n : Nat) (L : xL) (st : List Value) (S : OT), nx cod_X2_read cut_X2_read K (n + 1) 92 L st S = (O_int 48 2) (nx cod_X2_read cut_X2_read K n) 92 L st S) ∧
  (∀ (K : Kt OT) (n : Nat) (L : xL) (st : List Value) (S : OT), nx cod_X2_read cut_X2_read K (n + 1) 94 L st S = (O_isub) (nx cod_X2_read cut_X2_read K n) 94 L st S) ∧
  (∀ (K : Kt OT) (n : Nat) (L : xL) (st : List Value) (S : OT), nx cod_X2_read cut_X2_read K (n + 1) 95 L st S = (O_puti oW_p2_6) (nx cod_X2_read cut_X2_read K n) 95 L st S) ∧
  (∀ (K : Kt OT) (n : Nat) (L : xL) (st : List Value) (S : OT), nx cod_X2_read cut_X2_read K (n + 1) 98 L st S = (O_iinc 1 1) (nx cod_X2_read cut_X2_read K n) 98 L st S) ∧
  (∀ (K : Kt OT) (n : Nat) (L : xL) (st : List Value) (S : OT), nx cod_X2_read cut_X2_read K (n + 1) 101 L st S = (O_aload 0 1) (nx cod_X2_read cut_X2_read K n) 101 L st S) ∧
  (∀ (K : Kt OT) (n : Nat) (L : xL) (st : List Value) (S : OT), nx cod_X2_read cut_X2_read K (n + 1) 102 L st S = (O_dup) (nx cod_X2_read cut_X2_read K n) 102 L st S) ∧
  (∀ (K : Kt OT) (n : Nat) (L : xL) (st : List Value) (S : OT), nx cod_X2_read cut_X2_read K (n + 1) 103 L st S = (O_getf oW 2 3) (nx cod_X2_read cut_X2_read K n) 103 L st S) ∧
  (∀ (K : Kt OT) (n : Nat) (L : xL) (st : List Value) (S : OT), nx cod_X2_read cut_X2_read K (n + 1) 106 L st S = (O_int 1 1) (nx cod_X2_read cut_X2_read K n) 106 L st S) ∧
  (∀ (K : Kt OT) (n : Nat) (L : xL) (st : List Value) (S : OT), nx cod_X2_read cut_X2_read K (n + 1) 107 L st S = (O_iadd) (nx cod_X2_read cut_X2_read K n) 107 L st S) ∧
  (∀ (K : Kt OT) (n : Nat) (L : xL) (st : List Value) (S : OT), nx cod_X2_read cut_X2_read K (n + 1) 108 L st S = (O_puti oW_p2_3) (nx cod_X2_read cut_X2_read K n) 108 L st S) ∧
  (∀ (K : Kt OT) (n : Nat) (L : xL) (st : List Value) (S : OT), nx cod_X2_read cut_X2_read K (n + 1) 111 L st S = (O_goto 43) (nx cod_X2_read cut_X2_read K n) 111 L st S) ∧
  (∀ (K : Kt OT) (n : Nat) (L : xL) (st : List Value) (S : OT), nx cod_X2_read cut_X2_read K (n + 1) 114 L st S = K 114 L st S) ∧
  (∀ (K : Kt OT) (n : Nat) (L : xL) (st : List Value) (S : OT), nx1 cod_X2_read cut_X2_read K n 114 L st S = (O_aload 0 1) (nx cod_X2_read cut_X2_read K n) 114 L st S) ∧
  (∀ (K : Kt OT) (n : Nat) (L : xL) (st : List Value) (S : OT), nx cod_X2_read cut_X2_read K (n + 1) 115 L st S = (O_aload 0 1) (nx cod_X2_read cut_X2_read K n) 115 L st S) ∧
  (∀ (K : Kt OT) (n : Nat) (L : xL) (st : List Value) (S : OT), nx cod_X2_read cut_X2_read K (n + 1) 116 L st S = (O_getf oW 2 3) (nx cod_X2_read cut_X2_read K n) 116 L st S) ∧
  (∀ (K : Kt OT) (n : Nat) (L : xL) (st : List Value) (S : OT), nx cod_X2_read cut_X2_read K (n + 1) 119 L st S = (O_callV 1 0 (fun S => S) (fun _ S' => S') sp_X2_has) (nx cod_X2_read cut_X2_read K n) 119 L st S) ∧
  (∀ (K : Kt OT) (n : Nat) (L : xL) (st : List Value) (S : OT), nx cod_X2_read cut_X2_read K (n + 1) 122 L st S = (O_if_eq 143) (nx cod_X2_read cut_X2_read K n) 122 L st S) ∧
  (∀ (K : Kt OT) (n : Nat) (L : xL) (st : List Value) (S : OT), nx cod_X2_read cut_X2_read K (n + 1) 125 L st S = (O_aload 0 1) (nx cod_X2_read cut_X2_read K n) 125 L st S) ∧
  (∀ (K : Kt OT) (n : Nat) (L : xL) (st : List Value) (S : OT), nx cod_X2_read cut_X2_read K (n + 1) 126 L st S = (O_getf oW 2 0) (nx cod_X2_read cut_X2_read K n) 126 L st S) ∧
  (∀ (K : Kt OT) (n : Nat) (L : xL) (st : List Value) (S : OT), nx cod_X2_read cut_X2_read K (n + 1) 129 L st S = (O_aload 0 1) (nx cod_X2_read cut_X2_read K n) 129 L st S) ∧
  (∀ (K : Kt OT) (n : Nat) (L : xL) (st : List Value) (S : OT), nx cod_X2_read cut_X2_read K (n + 1) 130 L st S = (O_getf oW 2 3) (nx cod_X2_read cut_X2_read K n) 130 L st S) ∧
  (∀ (K : Kt OT) (n : Nat) (L : xL) (st : List Value) (S : OT), nx cod_X2_read cut_X2_read K (n + 1) 133 L st S = (O_ald oW 2) (nx cod_X2_read cut_X2_read K n) 133 L st S) ∧
  (∀ (K : Kt OT) (n : Nat) (L : xL) (st : List Value) (S : OT), nx cod_X2_read cut_X2_read K (n + 1) 134 L st S = (O_int 59 2) (nx cod_X2_read cut_X2_read K n) 134 L st S) ∧
  (∀ (K : Kt OT) (n : Nat) (L : xL) (st : List Value) (S : OT), nx cod_X2_read cut_X2_read K (n + 1) 136 L st S = (O_icmp_ne 143) (nx cod_X2_read cut_X2_read K n) 136 L st S) ∧
  (∀ (K : Kt OT) (n : Nat) (L : xL) (st : List Value) (S : OT), nx cod_X2_read cut_X2_read K (n + 1) 139 L st S = (O_int 1 1) (nx cod_X2_read cut_X2_read K n) 139 L st S) ∧
  (∀ (K : Kt OT) (n : Nat) (L : xL) (st : List Value) (S : OT), nx cod_X2_read cut_X2_read K (n + 1) 140 L st S = (O_goto 144) (nx cod_X2_read cut_X2_read K n) 140 L st S) ∧
  (∀ (K : Kt OT) (n : Nat) (L : xL) (st : List Value) (S : OT), nx cod_X2_read cut_X2_read K (n + 1) 143 L st S = (O_int 0 1) (nx cod_X2_read cut_X2_read K n) 143 L st S) ∧
  (∀ (K : Kt OT) (n : Nat) (L : xL) (st : List Value) (S : OT), nx cod_X2_read cut_X2_read K (n + 1) 144 L st S = (O_istore 2 1) (nx cod_X2_read cut_X2_read K n) 144 L st S) ∧
  (∀ (K : Kt OT) (n : Nat) (L : xL) (st : List Value) (S : OT), nx cod_X2_read cut_X2_read K (n + 1) 145 L st S = (O_aload 0 1) (nx cod_X2_read cut_X2_read K n) 145 L st S) ∧
  (∀ (K : Kt OT) (n : Nat) (L : xL) (st : List Value) (S : OT), nx cod_X2_read cut_X2_read K (n + 1) 146 L st S = (O_dup) (nx cod_X2_read cut_X2_read K n) 146 L st S) ∧
  (∀ (K : Kt OT) (n : Nat) (L : xL) (st : List Value) (S : OT), nx cod_X2_read cut_X2_read K (n + 1) 147 L st S = (O_getf oW 2 3) (nx cod_X2_read cut_X2_read K n) 147 L st S) ∧
  (∀ (K : Kt OT) (n : Nat) (L : xL) (st : List Value) (S : OT), nx cod_X2_read cut_X2_read K (n + 1) 150 L st S = (O_int 1 1) (nx cod_X2_read cut_X2_read K n) 150 L st S) ∧
  (∀ (K : Kt OT) (n : Nat) (L : xL) (st : List Value) (S : OT), nx cod_X2_read cut_X2_read K (n + 1) 151 L st S = (O_iadd) (nx cod_X2_read cut_X2_read K n) 151 L st S) ∧
  (∀ (K : Kt OT) (n : Nat) (L : xL) (st : List Value) (S : OT), nx cod_X2_read cut_X2_read K (n + 1) 152 L st S = (O_puti oW_p2_3) (nx cod_X2_read cut_X2_read K n) 152 L st S) ∧
  (∀ (K : Kt OT) (n : Nat) (L : xL) (st : List Value) (S : OT), nx cod_X2_read cut_X2_read K (n + 1) 155 L st S = (O_iload 2 1) (nx cod_X2_read cut_X2_read K n) 155 L st S) ∧
  (∀ (K : Kt OT) (n : Nat) (L : xL) (st : List Value) (S : OT), nx cod_X2_read cut_X2_read K (n + 1) 156 L st S = (O_if_eq 186) (nx cod_X2_read cut_X2_read K n) 156 L st S) ∧
  (∀ (K : Kt OT) (n : Nat) (L : xL) (st : List Value) (S : OT), nx cod_X2_read cut_X2_read K (n + 1) 159 L st S = (O_iload 1 1) (nx cod_X2_read cut_X2_read K n) 159 L st S) ∧
  (∀ (K : Kt OT) (n : Nat) (L : xL) (st : List Value) (S : OT), nx cod_X2_read cut_X2_read K (n + 1) 160 L st S = (O_if_le 173) (nx cod_X2_read cut_X2_read K n) 160 L st S) ∧
  (∀ (K : Kt OT) (n : Nat) (L : xL) (st : List Value) (S : OT), nx cod_X2_read cut_X2_read K (n + 1) 163 L st S = (O_aload 0 1) (nx cod_X2_read cut_X2_read K n) 163 L st S) ∧
  (∀ (K : Kt OT) (n : Nat) (L : xL) (st : List Value) (S : OT), nx cod_X2_read cut_X2_read K (n + 1) 164 L st S = (O_callV 0 0 (fun S => S) (fun _ S' => S') sp_X2_isLetterOfNumber) (nx cod_X2_read cut_X2_read K n) 164 L st S) ∧
  (∀ (K : Kt OT) (n : Nat) (L : xL) (st : List Value) (S : OT), nx cod_X2_read cut_X2_read K (n + 1) 167 L st S = (O_if_eq 186) (nx cod_X2_read cut_X2_read K n) 167 L st S) ∧
  (∀ (K : Kt OT) (n : Nat) (L : xL) (st : List Value) (S : OT), nx cod_X2_read cut_X2_read K (n + 1) 170 L st S = (O_goto 182) (nx cod_X2_read cut_X2_read K n) 170 L st S) ∧
  (∀ (K : Kt OT) (n : Nat) (L : xL) (st : List Value) (S : OT), nx cod_X2_read cut_X2_read K (n + 1) 173 L st S = (O_aload 0 1) (nx cod_X2_read cut_X2_read K n) 173 L st S) ∧
  (∀ (K : Kt OT) (n : Nat) (L : xL) (st : List Value) (S : OT), nx cod_X2_read cut_X2_read K (n + 1) 174 L st S = (O_getf oW 2 5) (nx cod_X2_read cut_X2_read K n) 174 L st S) ∧
  (∀ (K : Kt OT) (n : Nat) (L : xL) (st : List Value) (S : OT), nx cod_X2_read cut_X2_read K (n + 1) 177 L st S = (O_int 114 2) (nx cod_X2_read cut_X2_read K n) 177 L st S) ∧
  (∀ (K : Kt OT) (n : Nat) (L : xL) (st : List Value) (S : OT), nx cod_X2_read cut_X2_read K (n + 1) 179 L st S = (O_icmp_ne 186) (nx cod_X2_read cut_X2_read K n) 179 L st S) ∧
  (∀ (K : Kt OT) (n : Nat) (L : xL) (st : List Value) (S : OT), nx cod_X2_read cut_X2_read K (n + 1) 182 L st S = (O_int 1 1) (nx cod_X2_read cut_X2_read K n) 182 L st S) ∧
  (∀ (K : Kt OT) (n : Nat) (L : xL) (st : List Value) (S : OT), nx cod_X2_read cut_X2_read K (n + 1) 183 L st S = (O_goto 187) (nx cod_X2_read cut_X2_read K n) 183 L st S) ∧
  (∀ (K : Kt OT) (n : Nat) (L : xL) (st : List Value) (S : OT), nx cod_X2_read cut_X2_read K (n + 1) 186 L st S = (O_int 0 1) (nx cod_X2_read cut_X2_read K n) 186 L st S) ∧
  (∀ (K : Kt OT) (n : Nat) (L : xL) (st : List Value) (S : OT), nx cod_X2_read cut_X2_read K (n + 1) 187 L st S = (O_zret) (nx cod_X2_read cut_X2_read K n) 187 L st S) ∧
  (∀ (K : Kt OT) (n : Nat) (L : xL) (st : List Value) (S : OT), nx cod_X2_read cut_X2_read K (n + 1) 100000 L st S = K 100000 L st S) := by
  repeat' apply And.intro
  all_goals (intros; rfl)
set_option maxRecDepth 100000 in
theorem mk_X2_read {P P' : OT} {r : Option Value}  (body : ∀ E : En, CodOk E oW cod_X2_read → Gd E oW 100000 [] r.toList P' → Gd E oW 0 [some (.ref 0), none, none] [] P) : Con yX2_read cX2_read 3 (some .boolean) 1 oW [.ref 0] P r P' :=
  Con.of (by decide) rfl rfl (Nat.le_of_ble_eq_true rfl) (fun E F G hr => body E (okc_X2_read F G) hr)
theorem con_X2_read (S : OT)  (hp : S.ok ∧ S.chars) : Con yX2_read cX2_read 3 (some .boolean) 1 oW [.ref 0] S (some (.int (bI S.read.1))) (S.read.2) := by
  refine mk_X2_read (fun E C hr => ?_)
  have hv := OT.has_in (p := S.place) hp.1
  have key : S.has S.place = true → Gd E oW 43 [some (.ref 0), some (.int (nI 0)), none] [] S.rd0 := by
    intro hh
    have tail : ∀ (k : Nat) (T : OT), OT.digs 3 0 S.rd0 = (k, T) → Gd E oW 114 [some (.ref 0), some (.int (nI k)), none] [] T := by
      intro k T e
      have h1 := OT.digs_lt 3 0 S.rd0 rfl
      have h2 := OT.digs_text 3 0 S.rd0
      rw [e] at h1 h2
      have hz := n3' k h1
      have hT : T.ok := by
        have : T.length = S.length := h2.2.1
        unfold OT.ok OT.n
        rw [this]
        exact hp.1
      have hb := OT.has_in (p := T.behind) hT
      have er : S.read = (OT.rd1 k T, T.sBehind (T.behind + 1)) := by unfold OT.read; rw [if_neg (by rw [hh]; decide), e]
      rw [er] at hr
      clear h2 e er hv hh
      have hL : ∀ x, (T.sBehind x).isL = T.isL := fun _ => rfl
      (refine nx1_ok C cut_X2_read 1000 ?_; simp only [w_X2_read, ops_eq, xst_eq, call_eq, oK_eq, Option.toList_some, Option.toList_none, List.cons_append, List.nil_append, List.length_cons, List.length_nil, true_and, and_true, Nat.reduceAdd, oW_F, oW_A, oW_S, oW_P, OT_gs, se_X2_has, se_X2_isDigit, se_X2_isLetterOfNumber, bI_eq, hz, hL])
      ((repeat' (with_reducible first | apply And.intro | intro _)) <;> simp_all [OT.rd1, bI, OT_gs])
    have loop : ∀ (f k : Nat) (T : OT), k + f = 3 → T.length = S.length → OT.digs f k T = OT.digs 3 0 S.rd0 → Gd E oW 43 [some (.ref 0), some (.int (nI k)), none] [] T := by
      intro f
      induction f with
      | zero =>
        intro k T hk hl e
        have h3 : k = 3 := by omega
        subst h3
        have ht := tail 3 T e.symm
        (refine nx1_ok C cut_X2_read 1000 ?_; simp only [w_X2_read, ops_eq, xst_eq, call_eq, oK_eq, Option.toList_some, Option.toList_none, List.cons_append, List.nil_append, List.length_cons, List.length_nil, true_and, and_true, Nat.reduceAdd, oW_F, oW_A, oW_S, oW_P, OT_gs, se_X2_has, se_X2_isDigit, se_X2_isLetterOfNumber, show ¬ nI 3 < 3 from by decide])
        ((repeat' (with_reducible first | apply And.intro | intro _)) <;> simp_all [OT_gs])
      | succ f ih =>
        intro k T hk hl e
        have h3 := n3 k (by omega)
        have hT : T.ok := by
          unfold OT.ok OT.n
          rw [hl]
          exact hp.1
        have hb := OT.has_in (p := T.behind) hT
        unfold OT.digs at e
        by_cases hc : T.has T.behind = true ∧ isDig (T.text T.behind.toNatClampNeg) = true
        · rw [if_pos hc] at e
          have hn := ih (k + 1) ((T.sNumber (T.number * 10 + T.text T.behind.toNatClampNeg - 48)).sBehind (T.behind + 1)) (by omega) hl e
          (refine nx1_ok C cut_X2_read 1000 ?_; simp only [w_X2_read, ops_eq, xst_eq, call_eq, oK_eq, Option.toList_some, Option.toList_none, List.cons_append, List.nil_append, List.length_cons, List.length_nil, true_and, and_true, Nat.reduceAdd, oW_F, oW_A, oW_S, oW_P, OT_gs, se_X2_has, se_X2_isDigit, se_X2_isLetterOfNumber, bI_eq, h3])
          ((repeat' (with_reducible first | apply And.intro | intro _)) <;> simp_all [OT_gs])
        · rw [if_neg hc] at e
          have ht := tail k T e.symm
          (refine nx1_ok C cut_X2_read 1000 ?_; simp only [w_X2_read, ops_eq, xst_eq, call_eq, oK_eq, Option.toList_some, Option.toList_none, List.cons_append, List.nil_append, List.length_cons, List.length_nil, true_and, and_true, Nat.reduceAdd, oW_F, oW_A, oW_S, oW_P, OT_gs, se_X2_has, se_X2_isDigit, se_X2_isLetterOfNumber, bI_eq, h3])
          ((repeat' (with_reducible first | apply And.intro | intro _)) <;> simp_all [OT_gs])
    exact loop 3 0 S.rd0 rfl rfl rfl
  have hch : S.has S.place = true → narrow .char (.int (S.text S.place.toNatClampNeg)) = .int (S.text S.place.toNatClampNeg) ∧ fits .char (.int (S.text S.place.toNatClampNeg)) = true := fun hh => (hp.2 _ (by have := hv hh; exact Nat.lt_of_not_le (fun q => this (Or.inr q)))).2
  (refine nx_ok C (cuts := cut_X2_read) 1000 _ _ _ _ ?_; simp only [w_X2_read, ops_eq, xst_eq, call_eq, oK_eq, Option.toList_some, Option.toList_none, List.cons_append, List.nil_append, List.length_cons, List.length_nil, true_and, and_true, Nat.reduceAdd, oW_F, oW_A, oW_S, oW_P, OT_gs, se_X2_has, se_X2_isDigit, se_X2_isLetterOfNumber, bI_eq])
  ((repeat' (with_reducible first | apply And.intro | intro _)) <;> simp_all [OT.read, OT.rd0, nI_0, bI, OT_gs])
def sp_X2_read : Sp OT := fun av S K => match av with
  | [.ref 0] => (S.ok ∧ S.chars) ∧ K (some (.int (bI S.read.1))) (S.read.2)
  | _ => False
theorem se_X2_read  (S : OT) (K : Option Value → OT → Prop) : sp_X2_read [.ref 0] S K = ((S.ok ∧ S.chars) ∧ K (some (.int (bI S.read.1))) (S.read.2)) := rfl
theorem spok_X2_read : SpOk yX2_read cX2_read 3 (some .boolean) 1 oW sp_X2_read := by
  intro av S K h
  unfold sp_X2_read at h
  split at h
  · exact ⟨some (.int (bI S.read.1)), S.read.2, trivial, con_X2_read S  h.1, h.2⟩
  · exact h.elim
