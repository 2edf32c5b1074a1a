/-! ===== Pumps: curves, minutes, copies ===== -/
def root (sq : Int32) : Int32 := it (fun k r => if sq < (r + nI (1024 / 2 ^ k)) * (r + nI (1024 / 2 ^ k)) then r else r + nI (1024 / 2 ^ k)) 0 11
theorem rbit : ∀ k, k < 11 → 0 < nI (1024 / 2 ^ k) ∧ nI (1024 / 2 ^ k) / 2 = nI (1024 / 2 ^ (k + 1)) := by decide +kernel
def cod_X3_root : List (Nat × Op Unit) := [(0, O_int 0 1), (1, O_istore 1 1), (2, O_int 1024 3), (5, O_istore 2 1), (6, O_iload 2 1), (7, O_if_le 30), (10, O_iload 1 1), (11, O_iload 2 1), (12, O_iadd), (13, O_istore 3 1), (14, O_iload 3 1), (15, O_iload 3 1), (16, O_imul), (17, O_iload 0 1), (18, O_icmp_gt 23), (21, O_iload 3 1), (22, O_istore 1 1), (23, O_iload 2 1), (24, O_int 2 1), (25, O_idiv), (26, O_istore 2 1), (27, O_goto 6), (30, O_iload 1 1), (31, O_iret)]
abbrev cut_X3_root : List Nat := [6]
set_option maxRecDepth 100000 in
theorem okc_X3_root {E : En} (F : Fx E RX3 cX3_root 4 0) (G : Fr E (some .int)) : CodOk E toU cod_X3_root := by
  unfold CodOk cod_X3_root
  refine List.forall_mem_cons.mpr ⟨ok_iconst F dX3_root_0 (by decide) (by decide), ?_⟩
  refine List.forall_mem_cons.mpr ⟨ok_istore_n F dX3_root_1 rfl (by decide) (by decide), ?_⟩
  refine List.forall_mem_cons.mpr ⟨ok_sipush F dX3_root_2 (by decide) (by decide), ?_⟩
  refine List.forall_mem_cons.mpr ⟨ok_istore_n F dX3_root_5 rfl (by decide) (by decide), ?_⟩
  refine List.forall_mem_cons.mpr ⟨ok_iload_n F dX3_root_6 rfl (by decide), ?_⟩
  refine List.forall_mem_cons.mpr ⟨ok_if_le F dX3_root_7 (by decide) (by decide) (by decide), ?_⟩
  refine List.forall_mem_cons.mpr ⟨ok_iload_n F dX3_root_10 rfl (by decide), ?_⟩
  refine List.forall_mem_cons.mpr ⟨ok_iload_n F dX3_root_11 rfl (by decide), ?_⟩
  refine List.forall_mem_cons.mpr ⟨ok_iadd F dX3_root_12 (by decide), ?_⟩
  refine List.forall_mem_cons.mpr ⟨ok_istore_n F dX3_root_13 rfl (by decide) (by decide), ?_⟩
  refine List.forall_mem_cons.mpr ⟨ok_iload_n F dX3_root_14 rfl (by decide), ?_⟩
  refine List.forall_mem_cons.mpr ⟨ok_iload_n F dX3_root_15 rfl (by decide), ?_⟩
  refine List.forall_mem_cons.mpr ⟨ok_imul F dX3_root_16 (by decide), ?_⟩
  refine List.forall_mem_cons.mpr ⟨ok_iload_n F dX3_root_17 rfl (by decide), ?_⟩
  refine List.forall_mem_cons.mpr ⟨ok_icmp_gt F dX3_root_18 (by decide) (by decide) (by decide), ?_⟩
  refine List.forall_mem_cons.mpr ⟨ok_iload_n F dX3_root_21 rfl (by decide), ?_⟩
  refine List.forall_mem_cons.mpr ⟨ok_istore_n F dX3_root_22 rfl (by decide) (by decide), ?_⟩
  refine List.forall_mem_cons.mpr ⟨ok_iload_n F dX3_root_23 rfl (by decide), ?_⟩
  refine List.forall_mem_cons.mpr ⟨ok_iconst F dX3_root_24 (by decide) (by decide), ?_⟩
  refine List.forall_mem_cons.mpr ⟨ok_idiv F dX3_root_25 (by decide), ?_⟩
  refine List.forall_mem_cons.mpr ⟨ok_istore_n F dX3_root_26 rfl (by decide) (by decide), ?_⟩
  refine List.forall_mem_cons.mpr ⟨ok_goto F dX3_root_27 (by decide) (by decide) (by decide), ?_⟩
  refine List.forall_mem_cons.mpr ⟨ok_iload_n F dX3_root_30 rfl (by decide), ?_⟩
  refine List.forall_mem_cons.mpr ⟨ok_iret F G dX3_root_31 (by decide), ?_⟩
  exact fun _ h => absurd h List.not_mem_nil
set_option maxRecDepth 100000 in
theorem w_X3_root : (∀ (K : Kt Unit) (n : Nat) (L : xL) (st : List Value) (S : Unit), nx cod_X3_root cut_X3_root K (n + 1) 0 L st S = (O_int 0 1) (nx cod_X3_root cut_X3_root K n) 0 L st S) ∧
  (∀ (K : Kt Unit) (n : Nat) (L : xL) (st : List Value) (S : Unit), nx cod_X3_root cut_X3_root K (n + 1) 1 L st S = (O_istore 1 1) (nx cod_X3_root cut_X3_root K n) 1 L st S) ∧
  (∀ (K : Kt Unit) (n : Nat) (L : xL) (st : List Value) (S : Unit), nx cod_X3_root cut_X3_root K (n + 1) 2 L st S = (O_int 1024 3) (nx cod_X3_root cut_X3_root K n) 2 L st S) ∧
  (∀ (K : Kt Unit) (n : Nat) (L : xL) (st : List Value) (S : Unit), nx cod_X3_root cut_X3_root K (n + 1) 5 L st S = (O_istore 2 1) (nx cod_X3_root cut_X3_root K n) 5 L st S) ∧
  (∀ (K : Kt Unit) (n : Nat) (L : xL) (st : List Value) (S : Unit), nx cod_X3_root cut_X3_root K (n + 1) 6 L st S = K 6 L st S) ∧
  (∀ (K : Kt Unit) (n : Nat) (L : xL) (st : List Value) (S : Unit), nx1 cod_X3_root cut_X3_root K n 6 L st S = (O_iload 2 1) (nx cod_X3_root cut_X3_root K n) 6 L st S) ∧
  (∀ (K : Kt Unit) (n : Nat) (L : xL) (st : List Value) (S : Unit), nx cod_X3_root cut_X3_root K (n + 1) 7 L st S = (O_if_le 30) (nx cod_X3_root cut_X3_root K n) 7 L st S) ∧
  (∀ (K : Kt Unit) (n : Nat) (L : xL) (st : List Value) (S : Unit), nx cod_X3_root cut_X3_root K (n + 1) 10 L st S = (O_iload 1 1) (nx cod_X3_root cut_X3_root K n) 10 L st S) ∧
  (∀ (K : Kt Unit) (n : Nat) (L : xL) (st : List Value) (S : Unit), nx cod_X3_root cut_X3_root K (n + 1) 11 L st S = (O_iload 2 1) (nx cod_X3_root cut_X3_root K n) 11 L st S) ∧
  (∀ (K : Kt Unit) (n : Nat) (L : xL) (st : List Value) (S : Unit), nx cod_X3_root cut_X3_root K (n + 1) 12 L st S = (O_iadd) (nx cod_X3_root cut_X3_root K n) 12 L st S) ∧
  (∀ (K : Kt Unit) (n : Nat) (L : xL) (st : List Value) (S : Unit), nx cod_X3_root cut_X3_root K (n + 1) 13 L st S = (O_istore 3 1) (nx cod_X3_root cut_X3_root K n) 13 L st S) ∧
  (∀ (K : Kt Unit) (n : Nat) (L : xL) (st : List Value) (S : Unit), nx cod_X3_root cut_X3_root K (n + 1) 14 L st S = (O_iload 3 1) (nx cod_X3_root cut_X3_root K n) 14 L st S) ∧
  (∀ (K : Kt Unit) (n : Nat) (L : xL) (st : List Value) (S : Unit), nx cod_X3_root cut_X3_root K (n + 1) 15 L st S = (O_iload 3 1) (nx cod_X3_root cut_X3_root K n) 15 L st S) ∧
  (∀ (K : Kt Unit) (n : Nat) (L : xL) (st : List Value) (S : Unit), nx cod_X3_root cut_X3_root K (n + 1) 16 L st S = (O_imul) (nx cod_X3_root cut_X3_root K n) 16 L st S) ∧
  (∀ (K : Kt Unit) (n : Nat) (L : xL) (st : List Value) (S : Unit), nx cod_X3_root cut_X3_root K (n + 1) 17 L st S = (O_iload 0 1) (nx cod_X3_root cut_X3_root K n) 17 L st S) ∧
  (∀ (K : Kt Unit) (n : Nat) (L : xL) (st : List Value) (S : Unit), nx cod_X3_root cut_X3_root K (n + 1) 18 L st S = (O_icmp_gt 23) (nx cod_X3_root cut_X3_root K n) 18 L st S) ∧
  (∀ (K : Kt Unit) (n : Nat) (L : xL) (st : List Value) (S : Unit), nx cod_X3_root cut_X3_root K (n + 1) 21 L st S = (O_iload 3 1) (nx cod_X3_root cut_X3_root K n) 21 L st S) ∧
  (∀ (K : Kt Unit) (n : Nat) (L : xL) (st : List Value) (S : Unit), nx cod_X3_root cut_X3_root K (n + 1) 22 L st S = (O_istore 1 1) (nx cod_X3_root cut_X3_root K n) 22 L st S) ∧
  (∀ (K : Kt Unit) (n : Nat) (L : xL) (st : List Value) (S : Unit), nx cod_X3_root cut_X3_root K (n + 1) 23 L st S = (O_iload 2 1) (nx cod_X3_root cut_X3_root K n) 23 L st S) ∧
  (∀ (K : Kt Unit) (n : Nat) (L : xL) (st : List Value) (S : Unit), nx cod_X3_root cut_X3_root K (n + 1) 24 L st S = (O_int 2 1) (nx cod_X3_root cut_X3_root K n) 24 L st S) ∧
  (∀ (K : Kt Unit) (n : Nat) (L : xL) (st : List Value) (S : Unit), nx cod_X3_root cut_X3_root K (n + 1) 25 L st S = (O_idiv) (nx cod_X3_root cut_X3_root K n) 25 L st S) ∧
  (∀ (K : Kt Unit) (n : Nat) (L : xL) (st : List Value) (S : Unit), nx cod_X3_root cut_X3_root K (n + 1) 26 L st S = (O_istore 2 1) (nx cod_X3_root cut_X3_root K n) 26 L st S) ∧
  (∀ (K : Kt Unit) (n : Nat) (L : xL) (st : List Value) (S : Unit), nx cod_X3_root cut_X3_root K (n + 1) 27 L st S = (O_goto 6) (nx cod_X3_root cut_X3_root K n) 27 L st S) ∧
  (∀ (K : Kt Unit) (n : Nat) (L : xL) (st : List Value) (S : Unit), nx cod_X3_root cut_X3_root K (n + 1) 30 L st S = (O_iload 1 1) (nx cod_X3_root cut_X3_root K n) 30 L st S) ∧
  (∀ (K : Kt Unit) (n : Nat) (L : xL) (st : List Value) (S : Unit), nx cod_X3_root cut_X3_root K (n + 1) 31 L st S = (O_iret) (nx cod_X3_root cut_X3_root K n) 31 L st S) ∧
  (∀ (K : Kt Unit) (n : Nat) (L : xL) (st : List Value) (S : Unit), nx cod_X3_root cut_X3_root K (n + 1) 100000 L st S = K 100000 L st S) := by
  repeat' apply And.intro
  all_goals (intros; rfl)
set_option maxRecDepth 100000 in
theorem mk_X3_root {P P' : Unit} {r : Option Value} {p0 : Int32} (body : ∀ E : En, CodOk E toU cod_X3_root → Gd E toU 100000 [] r.toList P' → Gd E toU 0 [some (.int p0), none, none, none] [] P) : Con yX3_root cX3_root 4 (some .int) 0 toU [.int p0] P r P' :=
  Con.of (by decide) rfl rfl (Nat.le_of_ble_eq_true rfl) (fun E F G hr => body E (okc_X3_root F G) hr)
theorem con_X3_root (S : Unit) (sq : Int32) : Con yX3_root cX3_root 4 (some .int) 0 toU [.int sq] S (some (.int (root sq))) (S) := by
  refine mk_X3_root (fun E C hr => ?_)
  (refine nx_ok C (cuts := cut_X3_root) 1000 _ _ _ _ ?_; simp only [w_X3_root, ops_eq, xst_eq, call_eq, oK_eq, Option.toList_some, Option.toList_none, List.cons_append, List.nil_append, List.length_cons, List.length_nil, true_and, and_true, Nat.reduceAdd, call_eq])
  have key : ∀ q : Option Value, Gd E toU 6 [some (.int sq), some (.int 0), some (.int (nI (1024 / 2 ^ 0))), q] [] () := by
    refine it_up (f := fun k r => if sq < (r + nI (1024 / 2 ^ k)) * (r + nI (1024 / 2 ^ k)) then r else r + nI (1024 / 2 ^ k)) (n := 11) (a := (0 : Int32)) (fun _ _ => True) (fun k r => ∀ q : Option Value, Gd E toU 6 [some (.int sq), some (.int r), some (.int (nI (1024 / 2 ^ k))), q] [] ()) trivial (fun _ _ _ _ => trivial) (fun k r hk _ hn q => ?_) (fun q => ?_)
    · have hb := rbit k hk
      (refine nx1_ok C cut_X3_root 1000 ?_; simp only [w_X3_root, ops_eq, xst_eq, call_eq, oK_eq, Option.toList_some, Option.toList_none, List.cons_append, List.nil_append, List.length_cons, List.length_nil, true_and, and_true, Nat.reduceAdd, call_eq, hb])
      ((repeat' (with_reducible first | apply And.intro | intro _)) <;> simp_all [])
    · (refine nx1_ok C cut_X3_root 1000 ?_; simp only [w_X3_root, ops_eq, xst_eq, call_eq, oK_eq, Option.toList_some, Option.toList_none, List.cons_append, List.nil_append, List.length_cons, List.length_nil, true_and, and_true, Nat.reduceAdd, call_eq, show nI (1024 / 2 ^ 11) = 0 from rfl])
      ((repeat' (with_reducible first | apply And.intro | intro _)) <;> simp_all [root])
  exact key none
def sp_X3_root : Sp Unit := fun av S K => match av with
  | [.int sq] => K (some (.int (root sq))) (S)
  | _ => False
theorem se_X3_root (sq : Int32) (S : Unit) (K : Option Value → Unit → Prop) : sp_X3_root [.int sq] S K = (K (some (.int (root sq))) (S)) := rfl
theorem spok_X3_root : SpOk yX3_root cX3_root 4 (some .int) 0 toU sp_X3_root := by
  intro av S K h
  unfold sp_X3_root at h
  split at h
  · rename_i sq; exact ⟨some (.int (root sq)), S, trivial, con_X3_root S sq, h⟩
  · exact h.elim
def PT.flowOf (S : PT) (p : Nat) (sp pr : Int32) : Int32 := if ¬ pr < S.shutoffs p * sp * sp / 1000000 ∨ ¬ 0 < S.steeps p then 0 else root ((S.shutoffs p * sp * sp / 1000000 - pr) * 1000 / S.steeps p)
theorem pos_ne {x : Int32} (h : 0 < x) : ¬ x = 0 := fun e => by rw [e] at h; exact absurd h (by decide)
def cod_X3_flowOf : List (Nat × Op PT) := [(0, O_aload 0 1), (1, O_getf pW 3 1), (4, O_iload 1 1), (5, O_ald pW 0), (6, O_iload 2 1), (7, O_imul), (8, O_iload 2 1), (9, O_imul), (10, O_int 1000000 2), (12, O_idiv), (13, O_istore 4 2), (15, O_aload 0 1), (16, O_getf pW 3 2), (19, O_iload 1 1), (20, O_ald pW 0), (21, O_istore 5 2), (23, O_iload 4 2), (25, O_iload 3 1), (26, O_icmp_le 34), (29, O_iload 5 2), (31, O_if_gt 36), (34, O_int 0 1), (35, O_iret), (36, O_iload 4 2), (38, O_iload 3 1), (39, O_isub), (40, O_int 1000 3), (43, O_imul), (44, O_iload 5 2), (46, O_idiv), (47, O_callS 1 sp_X3_root), (50, O_iret)]
abbrev cut_X3_flowOf : List Nat := []
set_option maxRecDepth 100000 in
theorem okc_X3_flowOf {E : En} (F : Fx E RX3 cX3_flowOf 6 1) (G : Fr E (some .int)) : CodOk E pW cod_X3_flowOf := by
  unfold CodOk cod_X3_flowOf
  refine List.forall_mem_cons.mpr ⟨ok_aload_n F dX3_flowOf_0 rfl (by decide), ?_⟩
  refine List.forall_mem_cons.mpr ⟨ok_getf F flX3_15 dX3_flowOf_1 (by decide), ?_⟩
  refine List.forall_mem_cons.mpr ⟨ok_iload_n F dX3_flowOf_4 rfl (by decide), ?_⟩
  refine List.forall_mem_cons.mpr ⟨ok_iald F dX3_flowOf_5 (by decide), ?_⟩
  refine List.forall_mem_cons.mpr ⟨ok_iload_n F dX3_flowOf_6 rfl (by decide), ?_⟩
  refine List.forall_mem_cons.mpr ⟨ok_imul F dX3_flowOf_7 (by decide), ?_⟩
  refine List.forall_mem_cons.mpr ⟨ok_iload_n F dX3_flowOf_8 rfl (by decide), ?_⟩
  refine List.forall_mem_cons.mpr ⟨ok_imul F dX3_flowOf_9 (by decide), ?_⟩
  refine List.forall_mem_cons.mpr ⟨ok_ldc F (ix := 66) (wsHas_mem (l := [Jvm.Cond.constant RX3 66 1000000]) (by decide +kernel) (by simp)) dX3_flowOf_10 (by decide), ?_⟩
  refine List.forall_mem_cons.mpr ⟨ok_idiv F dX3_flowOf_12 (by decide), ?_⟩
  refine List.forall_mem_cons.mpr ⟨ok_istore F dX3_flowOf_13 (by decide) (by decide), ?_⟩
  refine List.forall_mem_cons.mpr ⟨ok_aload_n F dX3_flowOf_15 rfl (by decide), ?_⟩
  refine List.forall_mem_cons.mpr ⟨ok_getf F flX3_18 dX3_flowOf_16 (by decide), ?_⟩
  refine List.forall_mem_cons.mpr ⟨ok_iload_n F dX3_flowOf_19 rfl (by decide), ?_⟩
  refine List.forall_mem_cons.mpr ⟨ok_iald F dX3_flowOf_20 (by decide), ?_⟩
  refine List.forall_mem_cons.mpr ⟨ok_istore F dX3_flowOf_21 (by decide) (by decide), ?_⟩
  refine List.forall_mem_cons.mpr ⟨ok_iload F dX3_flowOf_23 (by decide), ?_⟩
  refine List.forall_mem_cons.mpr ⟨ok_iload_n F dX3_flowOf_25 rfl (by decide), ?_⟩
  refine List.forall_mem_cons.mpr ⟨ok_icmp_le F dX3_flowOf_26 (by decide) (by decide) (by decide), ?_⟩
  refine List.forall_mem_cons.mpr ⟨ok_iload F dX3_flowOf_29 (by decide), ?_⟩
  refine List.forall_mem_cons.mpr ⟨ok_if_gt F dX3_flowOf_31 (by decide) (by decide) (by decide), ?_⟩
  refine List.forall_mem_cons.mpr ⟨ok_iconst F dX3_flowOf_34 (by decide) (by decide), ?_⟩
  refine List.forall_mem_cons.mpr ⟨ok_iret F G dX3_flowOf_35 (by decide), ?_⟩
  refine List.forall_mem_cons.mpr ⟨ok_iload F dX3_flowOf_36 (by decide), ?_⟩
  refine List.forall_mem_cons.mpr ⟨ok_iload_n F dX3_flowOf_38 rfl (by decide), ?_⟩
  refine List.forall_mem_cons.mpr ⟨ok_isub F dX3_flowOf_39 (by decide), ?_⟩
  refine List.forall_mem_cons.mpr ⟨ok_sipush F dX3_flowOf_40 (by decide) (by decide), ?_⟩
  refine List.forall_mem_cons.mpr ⟨ok_imul F dX3_flowOf_43 (by decide), ?_⟩
  refine List.forall_mem_cons.mpr ⟨ok_iload F dX3_flowOf_44 (by decide), ?_⟩
  refine List.forall_mem_cons.mpr ⟨ok_idiv F dX3_flowOf_46 (by decide), ?_⟩
  refine List.forall_mem_cons.mpr ⟨ok_callS F spok_X3_root (by decide +kernel) rfl (by decide) dX3_flowOf_47 (by decide), ?_⟩
  refine List.forall_mem_cons.mpr ⟨ok_iret F G dX3_flowOf_50 (by decide), ?_⟩
  exact fun _ h => absurd h List.not_mem_nil
set_option maxRecDepth 100000 in
theorem w_X3_flowOf : (∀ (K : Kt PT) (n : Nat) (L : xL) (st : List Value) (S : PT), nx cod_X3_flowOf cut_X3_flowOf K (n + 1) 0 L st S = (O_aload 0 1) (nx cod_X3_flowOf cut_X3_flowOf K n) 0 L st S) ∧
  (∀ (K : Kt PT) (n : Nat) (L : xL) (st : List Value) (S : PT), nx cod_X3_flowOf cut_X3_flowOf K (n + 1) 1 L st S = (O_getf pW 3 1) (nx cod_X3_flowOf cut_X3_flowOf K n) 1 L st S) ∧
  (∀ (K : Kt PT) (n : Nat) (L : xL) (st : List Value) (S : PT), nx cod_X3_flowOf cut_X3_flowOf K (n + 1) 4 L st S = (O_iload 1 1) (nx cod_X3_flowOf cut_X3_flowOf K n) 4 L st S) ∧
  (∀ (K : Kt PT) (n : Nat) (L : xL) (st : List Value) (S : PT), nx cod_X3_flowOf cut_X3_flowOf K (n + 1) 5 L st S = (O_ald pW 0) (nx cod_X3_flowOf cut_X3_flowOf K n) 5 L st S) ∧
  (∀ (K : Kt PT) (n : Nat) (L : xL) (st : List Value) (S : PT), nx cod_X3_flowOf cut_X3_flowOf K (n + 1) 6 L st S = (O_iload 2 1) (nx cod_X3_flowOf cut_X3_flowOf K n) 6 L st S) ∧
  (∀ (K : Kt PT) (n : Nat) (L : xL) (st : List Value) (S : PT), nx cod_X3_flowOf cut_X3_flowOf K (n + 1) 7 L st S = (O_imul) (nx cod_X3_flowOf cut_X3_flowOf K n) 7 L st S) ∧
  (∀ (K : Kt PT) (n : Nat) (L : xL) (st : List Value) (S : PT), nx cod_X3_flowOf cut_X3_flowOf K (n + 1) 8 L st S = (O_iload 2 1) (nx cod_X3_flowOf cut_X3_flowOf K n) 8 L st S) ∧
  (∀ (K : Kt PT) (n : Nat) (L : xL) (st : List Value) (S : PT), nx cod_X3_flowOf cut_X3_flowOf K (n + 1) 9 L st S = (O_imul) (nx cod_X3_flowOf cut_X3_flowOf K n) 9 L st S) ∧
  (∀ (K : Kt PT) (n : Nat) (L : xL) (st : List Value) (S : PT), nx cod_X3_flowOf cut_X3_flowOf K (n + 1) 10 L st S = (O_int 1000000 2) (nx cod_X3_flowOf cut_X3_flowOf K n) 10 L st S) ∧
  (∀ (K : Kt PT) (n : Nat) (L : xL) (st : List Value) (S : PT), nx cod_X3_flowOf cut_X3_flowOf K (n + 1) 12 L st S = (O_idiv) (nx cod_X3_flowOf cut_X3_flowOf K n) 12 L st S) ∧
  (∀ (K : Kt PT) (n : Nat) (L : xL) (st : List Value) (S : PT), nx cod_X3_flowOf cut_X3_flowOf K (n + 1) 13 L st S = (O_istore 4 2) (nx cod_X3_flowOf cut_X3_flowOf K n) 13 L st S) ∧
  (∀ (K : Kt PT) (n : Nat) (L : xL) (st : List Value) (S : PT), nx cod_X3_flowOf cut_X3_flowOf K (n + 1) 15 L st S = (O_aload 0 1) (nx cod_X3_flowOf cut_X3_flowOf K n) 15 L st S) ∧
  (∀ (K : Kt PT) (n : Nat) (L : xL) (st : List Value) (S : PT), nx cod_X3_flowOf cut_X3_flowOf K (n + 1) 16 L st S = (O_getf pW 3 2) (nx cod_X3_flowOf cut_X3_flowOf K n) 16 L st S) ∧
  (∀ (K : Kt PT) (n : Nat) (L : xL) (st : List Value) (S : PT), nx cod_X3_flowOf cut_X3_flowOf K (n + 1) 19 L st S = (O_iload 1 1) (nx cod_X3_flowOf cut_X3_flowOf K n) 19 L st S) ∧
  (∀ (K : Kt PT) (n : Nat) (L : xL) (st : List Value) (S : PT), nx cod_X3_flowOf cut_X3_flowOf K (n + 1) 20 L st S = (O_ald pW 0) (nx cod_X3_flowOf cut_X3_flowOf K n) 20 L st S) ∧
  (∀ (K : Kt PT) (n : Nat) (L : xL) (st : List Value) (S : PT), nx cod_X3_flowOf cut_X3_flowOf K (n + 1) 21 L st S = (O_istore 5 2) (nx cod_X3_flowOf cut_X3_flowOf K n) 21 L st S) ∧
  (∀ (K : Kt PT) (n : Nat) (L : xL) (st : List Value) (S : PT), nx cod_X3_flowOf cut_X3_flowOf K (n + 1) 23 L st S = (O_iload 4 2) (nx cod_X3_flowOf cut_X3_flowOf K n) 23 L st S) ∧
  (∀ (K : Kt PT) (n : Nat) (L : xL) (st : List Value) (S : PT), nx cod_X3_flowOf cut_X3_flowOf K (n + 1) 25 L st S = (O_iload 3 1) (nx cod_X3_flowOf cut_X3_flowOf K n) 25 L st S) ∧
  (∀ (K : Kt PT) (n : Nat) (L : xL) (st : List Value) (S : PT), nx cod_X3_flowOf cut_X3_flowOf K (n + 1) 26 L st S = (O_icmp_le 34) (nx cod_X3_flowOf cut_X3_flowOf K n) 26 L st S) ∧
  (∀ (K : Kt PT) (n : Nat) (L : xL) (st : List Value) (S : PT), nx cod_X3_flowOf cut_X3_flowOf K (n + 1) 29 L st S = (O_iload 5 2) (nx cod_X3_flowOf cut_X3_flowOf K n) 29 L st S) ∧
  (∀ (K : Kt PT) (n : Nat) (L : xL) (st : List Value) (S : PT), nx cod_X3_flowOf cut_X3_flowOf K (n + 1) 31 L st S = (O_if_gt 36) (nx cod_X3_flowOf cut_X3_flowOf K n) 31 L st S) ∧
  (∀ (K : Kt PT) (n : Nat) (L : xL) (st : List Value) (S : PT), nx cod_X3_flowOf cut_X3_flowOf K (n + 1) 34 L st S = (O_int 0 1) (nx cod_X3_flowOf cut_X3_flowOf K n) 34 L st S) ∧
  (∀ (K : Kt PT) (n : Nat) (L : xL) (st : List Value) (S : PT), nx cod_X3_flowOf cut_X3_flowOf K (n + 1) 35 L st S = (O_iret) (nx cod_X3_flowOf cut_X3_flowOf K n) 35 L st S) ∧
  (∀ (K : Kt PT) (n : Nat) (L : xL) (st : List Value) (S : PT), nx cod_X3_flowOf cut_X3_flowOf K (n + 1) 36 L st S = (O_iload 4 2) (nx cod_X3_flowOf cut_X3_flowOf K n) 36 L st S) ∧
  (∀ (K : Kt PT) (n : Nat) (L : xL) (st : List Value) (S : PT), nx cod_X3_flowOf cut_X3_flowOf K (n + 1) 38 L st S = (O_iload 3 1) (nx cod_X3_flowOf cut_X3_flowOf K n) 38 L st S) ∧
  (∀ (K : Kt PT) (n : Nat) (L : xL) (st : List Value) (S : PT), nx cod_X3_flowOf cut_X3_flowOf K (n + 1) 39 L st S = (O_isub) (nx cod_X3_flowOf cut_X3_flowOf K n) 39 L st S) ∧
  (∀ (K : Kt PT) (n : Nat) (L : xL) (st : List Value) (S : PT), nx cod_X3_flowOf cut_X3_flowOf K (n + 1) 40 L st S = (O_int 1000 3) (nx cod_X3_flowOf cut_X3_flowOf K n) 40 L st S) ∧
  (∀ (K : Kt PT) (n : Nat) (L : xL) (st : List Value) (S : PT), nx cod_X3_flowOf cut_X3_flowOf K (n + 1) 43 L st S = (O_imul) (nx cod_X3_flowOf cut_X3_flowOf K n) 43 L st S) ∧
  (∀ (K : Kt PT) (n : Nat) (L : xL) (st : List Value) (S : PT), nx cod_X3_flowOf cut_X3_flowOf K (n + 1) 44 L st S = (O_iload 5 2) (nx cod_X3_flowOf cut_X3_flowOf K n) 44 L st S) ∧
  (∀ (K : Kt PT) (n : Nat) (L : xL) (st : List Value) (S : PT), nx cod_X3_flowOf cut_X3_flowOf K (n + 1) 46 L st S = (O_idiv) (nx cod_X3_flowOf cut_X3_flowOf K n) 46 L st S) ∧
  (∀ (K : Kt PT) (n : Nat) (L : xL) (st : List Value) (S : PT), nx cod_X3_flowOf cut_X3_flowOf K (n + 1) 47 L st S = (O_callS 1 sp_X3_root) (nx cod_X3_flowOf cut_X3_flowOf K n) 47 L st S) ∧
  (∀ (K : Kt PT) (n : Nat) (L : xL) (st : List Value) (S : PT), nx cod_X3_flowOf cut_X3_flowOf K (n + 1) 50 L st S = (O_iret) (nx cod_X3_flowOf cut_X3_flowOf K n) 50 L st S) ∧
  (∀ (K : Kt PT) (n : Nat) (L : xL) (st : List Value) (S : PT), nx cod_X3_flowOf cut_X3_flowOf K (n + 1) 100000 L st S = K 100000 L st S) := by
  repeat' apply And.intro
  all_goals (intros; rfl)
set_option maxRecDepth 100000 in
theorem mk_X3_flowOf {P P' : PT} {r : Option Value} {p0 : Int32} {p1 : Int32} {p2 : Int32} (body : ∀ E : En, CodOk E pW cod_X3_flowOf → Gd E pW 100000 [] r.toList P' → Gd E pW 0 [some (.ref 0), some (.int p0), some (.int p1), some (.int p2), none, none] [] P) : Con yX3_flowOf cX3_flowOf 6 (some .int) 1 pW [.ref 0, .int p0, .int p1, .int p2] P r P' :=
  Con.of (by decide) rfl rfl (Nat.le_of_ble_eq_true rfl) (fun E F G hr => body E (okc_X3_flowOf F G) hr)
theorem con_X3_flowOf (S : PT) (p : Int32) (sp : Int32) (pr : Int32) (hp : vp_in p 6) : Con yX3_flowOf cX3_flowOf 6 (some .int) 1 pW [.ref 0, .int p, .int sp, .int pr] S (some (.int (S.flowOf p.toNatClampNeg sp pr))) (S) := by
  refine mk_X3_flowOf (fun E C hr => ?_)
  (refine nx_ok C (cuts := cut_X3_flowOf) 1000 _ _ _ _ ?_; simp only [w_X3_flowOf, ops_eq, xst_eq, call_eq, oK_eq, Option.toList_some, Option.toList_none, List.cons_append, List.nil_append, List.length_cons, List.length_nil, true_and, and_true, Nat.reduceAdd, pW_F, pW_A, pW_S, pW_P, PT_gs, se_X3_root])
  ((repeat' (with_reducible first | apply And.intro | intro _)) <;> simp_all [PT.flowOf, pos_ne, PT_gs])
def sp_X3_flowOf : Sp PT := fun av S K => match av with
  | [.ref 0, .int p, .int sp, .int pr] => (vp_in p 6) ∧ K (some (.int (S.flowOf p.toNatClampNeg sp pr))) (S)
  | _ => False
theorem se_X3_flowOf (p : Int32) (sp : Int32) (pr : Int32) (S : PT) (K : Option Value → PT → Prop) : sp_X3_flowOf [.ref 0, .int p, .int sp, .int pr] S K = ((vp_in p 6) ∧ K (some (.int (S.flowOf p.toNatClampNeg sp pr))) (S)) := rfl
theorem spok_X3_flowOf : SpOk yX3_flowOf cX3_flowOf 6 (some .int) 1 pW sp_X3_flowOf := by
  intro av S K h
  unfold sp_X3_flowOf at h
  split at h
  · rename_i p sp pr; exact ⟨some (.int (S.flowOf p.toNatClampNeg sp pr)), S, trivial, con_X3_flowOf S p sp pr h.1, h.2⟩
  · exact h.elim
def PT.flow (S : PT) (pr : Int32) : Int32 := it (fun p r => r + S.flowOf p (S.speeds p) pr) 0 S.n
def cod_X3_flow : List (Nat × Op PT) := [(0, O_int 0 1), (1, O_istore 2 1), (2, O_int 0 1), (3, O_istore 3 1), (4, O_iload 3 1), (5, O_aload 0 1), (6, O_getf pW 3 8), (9, O_icmp_ge 33), (12, O_iload 2 1), (13, O_aload 0 1), (14, O_iload 3 1), (15, O_aload 0 1), (16, O_getf pW 3 4), (19, O_iload 3 1), (20, O_ald pW 0), (21, O_iload 1 1), (22, O_callV 3 0 (fun S => S) (fun _ S' => S') sp_X3_flowOf), (25, O_iadd), (26, O_istore 2 1), (27, O_iinc 3 1), (30, O_goto 4), (33, O_iload 2 1), (34, O_iret)]
abbrev cut_X3_flow : List Nat := [4]
set_option maxRecDepth 100000 in
theorem okc_X3_flow {E : En} (F : Fx E RX3 cX3_flow 4 2) (G : Fr E (some .int)) : CodOk E pW cod_X3_flow := by
  unfold CodOk cod_X3_flow
  refine List.forall_mem_cons.mpr ⟨ok_iconst F dX3_flow_0 (by decide) (by decide), ?_⟩
  refine List.forall_mem_cons.mpr ⟨ok_istore_n F dX3_flow_1 rfl (by decide) (by decide), ?_⟩
  refine List.forall_mem_cons.mpr ⟨ok_iconst F dX3_flow_2 (by decide) (by decide), ?_⟩
  refine List.forall_mem_cons.mpr ⟨ok_istore_n F dX3_flow_3 rfl (by decide) (by decide), ?_⟩
  refine List.forall_mem_cons.mpr ⟨ok_iload_n F dX3_flow_4 rfl (by decide), ?_⟩
  refine List.forall_mem_cons.mpr ⟨ok_aload_n F dX3_flow_5 rfl (by decide), ?_⟩
  refine List.forall_mem_cons.mpr ⟨ok_getf F flX3_47 dX3_flow_6 (by decide), ?_⟩
  refine List.forall_mem_cons.mpr ⟨ok_icmp_ge F dX3_flow_9 (by decide) (by decide) (by decide), ?_⟩
  refine List.forall_mem_cons.mpr ⟨ok_iload_n F dX3_flow_12 rfl (by decide), ?_⟩
  refine List.forall_mem_cons.mpr ⟨ok_aload_n F dX3_flow_13 rfl (by decide), ?_⟩
  refine List.forall_mem_cons.mpr ⟨ok_iload_n F dX3_flow_14 rfl (by decide), ?_⟩
  refine List.forall_mem_cons.mpr ⟨ok_aload_n F dX3_flow_15 rfl (by decide), ?_⟩
  refine List.forall_mem_cons.mpr ⟨ok_getf F flX3_25 dX3_flow_16 (by decide), ?_⟩
  refine List.forall_mem_cons.mpr ⟨ok_iload_n F dX3_flow_19 rfl (by decide), ?_⟩
  refine List.forall_mem_cons.mpr ⟨ok_iald F dX3_flow_20 (by decide), ?_⟩
  refine List.forall_mem_cons.mpr ⟨ok_iload_n F dX3_flow_21 rfl (by decide), ?_⟩
  refine List.forall_mem_cons.mpr ⟨ok_callV F spok_X3_flowOf (ln_id pW) rcv_pW (by decide +kernel) (by decide) dX3_flow_22 (by decide), ?_⟩
  refine List.forall_mem_cons.mpr ⟨ok_iadd F dX3_flow_25 (by decide), ?_⟩
  refine List.forall_mem_cons.mpr ⟨ok_istore_n F dX3_flow_26 rfl (by decide) (by decide), ?_⟩
  refine List.forall_mem_cons.mpr ⟨ok_iinc F dX3_flow_27 (by decide) (by decide) (by decide), ?_⟩
  refine List.forall_mem_cons.mpr ⟨ok_goto F dX3_flow_30 (by decide) (by decide) (by decide), ?_⟩
  refine List.forall_mem_cons.mpr ⟨ok_iload_n F dX3_flow_33 rfl (by decide), ?_⟩
  refine List.forall_mem_cons.mpr ⟨ok_iret F G dX3_flow_34 (by decide), ?_⟩
  exact fun _ h => absurd h List.not_mem_nil
set_option maxRecDepth 100000 in
theorem w_X3_flow : (∀ (K : Kt PT) (n : Nat) (L : xL) (st : List Value) (S : PT), nx cod_X3_flow cut_X3_flow K (n + 1) 0 L st S = (O_int 0 1) (nx cod_X3_flow cut_X3_flow K n) 0 L st S) ∧
  (∀ (K : Kt PT) (n : Nat) (L : xL) (st : List Value) (S : PT), nx cod_X3_flow cut_X3_flow K (n + 1) 1 L st S = (O_istore 2 1) (nx cod_X3_flow cut_X3_flow K n) 1 L st S) ∧
  (∀ (K : Kt PT) (n : Nat) (L : xL) (st : List Value) (S : PT), nx cod_X3_flow cut_X3_flow K (n + 1) 2 L st S = (O_int 0 1) (nx cod_X3_flow cut_X3_flow K n) 2 L st S) ∧
  (∀ (K : Kt PT) (n : Nat) (L : xL) (st : List Value) (S : PT), nx cod_X3_flow cut_X3_flow K (n + 1) 3 L st S = (O_istore 3 1) (nx cod_X3_flow cut_X3_flow K n) 3 L st S) ∧
  (∀ (K : Kt PT) (n : Nat) (L : xL) (st : List Value) (S : PT), nx cod_X3_flow cut_X3_flow K (n + 1) 4 L st S = K 4 L st S) ∧
  (∀ (K : Kt PT) (n : Nat) (L : xL) (st : List Value) (S : PT), nx1 cod_X3_flow cut_X3_flow K n 4 L st S = (O_iload 3 1) (nx cod_X3_flow cut_X3_flow K n) 4 L st S) ∧
  (∀ (K : Kt PT) (n : Nat) (L : xL) (st : List Value) (S : PT), nx cod_X3_flow cut_X3_flow K (n + 1) 5 L st S = (O_aload 0 1) (nx cod_X3_flow cut_X3_flow K n) 5 L st S) ∧
  (∀ (K : Kt PT) (n : Nat) (L : xL) (st : List Value) (S : PT), nx cod_X3_flow cut_X3_flow K (n + 1) 6 L st S = (O_getf pW 3 8) (nx cod_X3_flow cut_X3_flow K n) 6 L st S) ∧
  (∀ (K : Kt PT) (n : Nat) (L : xL) (st : List Value) (S : PT), nx cod_X3_flow cut_X3_flow K (n + 1) 9 L st S = (O_icmp_ge 33) (nx cod_X3_flow cut_X3_flow K n) 9 L st S) ∧
  (∀ (K : Kt PT) (n : Nat) (L : xL) (st : List Value) (S : PT), nx cod_X3_flow cut_X3_flow K (n + 1) 12 L st S = (O_iload 2 1) (nx cod_X3_flow cut_X3_flow K n) 12 L st S) ∧
  (∀ (K : Kt PT) (n : Nat) (L : xL) (st : List Value) (S : PT), nx cod_X3_flow cut_X3_flow K (n + 1) 13 L st S = (O_aload 0 1) (nx cod_X3_flow cut_X3_flow K n) 13 L st S) ∧
  (∀ (K : Kt PT) (n : Nat) (L : xL) (st : List Value) (S : PT), nx cod_X3_flow cut_X3_flow K (n + 1) 14 L st S = (O_iload 3 1) (nx cod_X3_flow cut_X3_flow K n) 14 L st S) ∧
  (∀ (K : Kt PT) (n : Nat) (L : xL) (st : List Value) (S : PT), nx cod_X3_flow cut_X3_flow K (n + 1) 15 L st S = (O_aload 0 1) (nx cod_X3_flow cut_X3_flow K n) 15 L st S) ∧
  (∀ (K : Kt PT) (n : Nat) (L : xL) (st : List Value) (S : PT), nx cod_X3_flow cut_X3_flow K (n + 1) 16 L st S = (O_getf pW 3 4) (nx cod_X3_flow cut_X3_flow K n) 16 L st S) ∧
  (∀ (K : Kt PT) (n : Nat) (L : xL) (st : List Value) (S : PT), nx cod_X3_flow cut_X3_flow K (n + 1) 19 L st S = (O_iload 3 1) (nx cod_X3_flow cut_X3_flow K n) 19 L st S) ∧
  (∀ (K : Kt PT) (n : Nat) (L : xL) (st : List Value) (S : PT), nx cod_X3_flow cut_X3_flow K (n + 1) 20 L st S = (O_ald pW 0) (nx cod_X3_flow cut_X3_flow K n) 20 L st S) ∧
  (∀ (K : Kt PT) (n : Nat) (L : xL) (st : List Value) (S : PT), nx cod_X3_flow cut_X3_flow K (n + 1) 21 L st S = (O_iload 1 1) (nx cod_X3_flow cut_X3_flow K n) 21 L st S) ∧
  (∀ (K : Kt PT) (n : Nat) (L : xL) (st : List Value) (S : PT), nx cod_X3_flow cut_X3_flow K (n + 1) 22 L st S = (O_callV 3 0 (fun S => S) (fun _ S' => S') sp_X3_flowOf) (nx cod_X3_flow cut_X3_flow K n) 22 L st S) ∧
  (∀ (K : Kt PT) (n : Nat) (L : xL) (st : List Value) (S : PT), nx cod_X3_flow cut_X3_flow K (n + 1) 25 L st S = (O_iadd) (nx cod_X3_flow cut_X3_flow K n) 25 L st S) ∧
  (∀ (K : Kt PT) (n : Nat) (L : xL) (st : List Value) (S : PT), nx cod_X3_flow cut_X3_flow K (n + 1) 26 L st S = (O_istore 2 1) (nx cod_X3_flow cut_X3_flow K n) 26 L st S) ∧
  (∀ (K : Kt PT) (n : Nat) (L : xL) (st : List Value) (S : PT), nx cod_X3_flow cut_X3_flow K (n + 1) 27 L st S = (O_iinc 3 1) (nx cod_X3_flow cut_X3_flow K n) 27 L st S) ∧
  (∀ (K : Kt PT) (n : Nat) (L : xL) (st : List Value) (S : PT), nx cod_X3_flow cut_X3_flow K (n + 1) 30 L st S = (O_goto 4) (nx cod_X3_flow cut_X3_flow K n) 30 L st S) ∧
  (∀ (K : Kt PT) (n : Nat) (L : xL) (st : List Value) (S : PT), nx cod_X3_flow cut_X3_flow K (n + 1) 33 L st S = (O_iload 2 1) (nx cod_X3_flow cut_X3_flow K n) 33 L st S) ∧
  (∀ (K : Kt PT) (n : Nat) (L : xL) (st : List Value) (S : PT), nx cod_X3_flow cut_X3_flow K (n + 1) 34 L st S = (O_iret) (nx cod_X3_flow cut_X3_flow K n) 34 L st S) ∧
  (∀ (K : Kt PT) (n : Nat) (L : xL) (st : List Value) (S : PT), nx cod_X3_flow cut_X3_flow K (n + 1) 100000 L st S = K 100000 L st S) := by
  repeat' apply And.intro
  all_goals (intros; rfl)
set_option maxRecDepth 100000 in
theorem mk_X3_flow {P P' : PT} {r : Option Value} {p0 : Int32} (body : ∀ E : En, CodOk E pW cod_X3_flow → Gd E pW 100000 [] r.toList P' → Gd E pW 0 [some (.ref 0), some (.int p0), none, none] [] P) : Con yX3_flow cX3_flow 4 (some .int) 2 pW [.ref 0, .int p0] P r P' :=
  Con.of (by decide) rfl rfl (Nat.le_of_ble_eq_true rfl) (fun E F G hr => body E (okc_X3_flow F G) hr)
theorem con_X3_flow (S : PT) (pr : Int32) (hp : S.ok) : Con yX3_flow cX3_flow 4 (some .int) 2 pW [.ref 0, .int pr] S (some (.int (S.flow pr))) (S) := by
  refine mk_X3_flow (fun E C hr => ?_)
  (refine nx_ok C (cuts := cut_X3_flow) 1000 _ _ _ _ ?_; simp only [w_X3_flow, ops_eq, xst_eq, call_eq, oK_eq, Option.toList_some, Option.toList_none, List.cons_append, List.nil_append, List.length_cons, List.length_nil, true_and, and_true, Nat.reduceAdd, pW_F, pW_A, pW_S, pW_P, PT_gs, se_X3_flowOf])
  refine it_up (f := fun p r => r + S.flowOf p (S.speeds p) pr) (n := S.n) (fun _ _ => True) (fun i r => Gd E pW 4 [some (.ref 0), some (.int pr), some (.int r), some (.int (nI i))] [] S) trivial (fun _ _ _ _ => trivial) (fun i r hi _ hn => ?_) ?_
  · have hx := ixs hp hi
    (refine nx1_ok C cut_X3_flow 1000 ?_; simp only [w_X3_flow, ops_eq, xst_eq, call_eq, oK_eq, Option.toList_some, Option.toList_none, List.cons_append, List.nil_append, List.length_cons, List.length_nil, true_and, and_true, Nat.reduceAdd, pW_F, pW_A, pW_S, pW_P, PT_gs, se_X3_flowOf, hx])
    ((repeat' (with_reducible first | apply And.intro | intro _)) <;> simp_all [PT_gs])
  · have hx := ixe hp
    (refine nx1_ok C cut_X3_flow 1000 ?_; simp only [w_X3_flow, ops_eq, xst_eq, call_eq, oK_eq, Option.toList_some, Option.toList_none, List.cons_append, List.nil_append, List.length_cons, List.length_nil, true_and, and_true, Nat.reduceAdd, pW_F, pW_A, pW_S, pW_P, PT_gs, se_X3_flowOf, hx])
    ((repeat' (with_reducible first | apply And.intro | intro _)) <;> simp_all [PT.flow, PT_gs])
def sp_X3_flow : Sp PT := fun av S K => match av with
  | [.ref 0, .int pr] => (S.ok) ∧ K (some (.int (S.flow pr))) (S)
  | _ => False
theorem se_X3_flow (pr : Int32) (S : PT) (K : Option Value → PT → Prop) : sp_X3_flow [.ref 0, .int pr] S K = ((S.ok) ∧ K (some (.int (S.flow pr))) (S)) := rfl
theorem spok_X3_flow : SpOk yX3_flow cX3_flow 4 (some .int) 2 pW sp_X3_flow := by
  intro av S K h
  unfold sp_X3_flow at h
  split at h
  · rename_i pr; exact ⟨some (.int (S.flow pr)), S, trivial, con_X3_flow S pr h.1, h.2⟩
  · exact h.elim
def PT.cm (p : Nat) (T : PT) : PT := if T.run p = true then (T.sMinutes (upd T.minutes p (T.minutes p + 1))).sSince (upd T.since p (T.since p + 1)) else T
def PT.countM (S : PT) : PT := it PT.cm S S.n
theorem PT.ok_of {S T : PT} (h : S.ok) (e : T.size = S.size) : T.ok ∧ T.n = S.n := by
  unfold PT.ok PT.n at *
  rw [e]
  exact ⟨h, rfl⟩
def cod_X3_countMinute : List (Nat × Op PT) := [(0, O_int 0 1), (1, O_istore 1 1), (2, O_iload 1 1), (3, O_aload 0 1), (4, O_getf pW 3 8), (7, O_icmp_ge 45), (10, O_aload 0 1), (11, O_getf pW 3 4), (14, O_iload 1 1), (15, O_ald pW 0), (16, O_if_le 39), (19, O_aload 0 1), (20, O_getf pW 3 5), (23, O_iload 1 1), (24, O_dup2), (25, O_ald pW 0), (26, O_int 1 1), (27, O_iadd), (28, O_ast pW 0 pW_sa), (29, O_aload 0 1), (30, O_getf pW 3 6), (33, O_iload 1 1), (34, O_dup2), (35, O_ald pW 0), (36, O_int 1 1), (37, O_iadd), (38, O_ast pW 0 pW_sa), (39, O_iinc 1 1), (42, O_goto 2), (45, O_vret)]
abbrev cut_X3_countMinute : List Nat := [2]
set_option maxRecDepth 100000 in
theorem okc_X3_countMinute {E : En} (F : Fx E RX3 cX3_countMinute 2 0) (G : Fr E none) : CodOk E pW cod_X3_countMinute := by
  unfold CodOk cod_X3_countMinute
  refine List.forall_mem_cons.mpr ⟨ok_iconst F dX3_countMinute_0 (by decide) (by decide), ?_⟩
  refine List.forall_mem_cons.mpr ⟨ok_istore_n F dX3_countMinute_1 rfl (by decide) (by decide), ?_⟩
  refine List.forall_mem_cons.mpr ⟨ok_iload_n F dX3_countMinute_2 rfl (by decide), ?_⟩
  refine List.forall_mem_cons.mpr ⟨ok_aload_n F dX3_countMinute_3 rfl (by decide), ?_⟩
  refine List.forall_mem_cons.mpr ⟨ok_getf F flX3_47 dX3_countMinute_4 (by decide), ?_⟩
  refine List.forall_mem_cons.mpr ⟨ok_icmp_ge F dX3_countMinute_7 (by decide) (by decide) (by decide), ?_⟩
  refine List.forall_mem_cons.mpr ⟨ok_aload_n F dX3_countMinute_10 rfl (by decide), ?_⟩
  refine List.forall_mem_cons.mpr ⟨ok_getf F flX3_25 dX3_countMinute_11 (by decide), ?_⟩
  refine List.forall_mem_cons.mpr ⟨ok_iload_n F dX3_countMinute_14 rfl (by decide), ?_⟩
  refine List.forall_mem_cons.mpr ⟨ok_iald F dX3_countMinute_15 (by decide), ?_⟩
  refine List.forall_mem_cons.mpr ⟨ok_if_le F dX3_countMinute_16 (by decide) (by decide) (by decide), ?_⟩
  refine List.forall_mem_cons.mpr ⟨ok_aload_n F dX3_countMinute_19 rfl (by decide), ?_⟩
  refine List.forall_mem_cons.mpr ⟨ok_getf F flX3_28 dX3_countMinute_20 (by decide), ?_⟩
  refine List.forall_mem_cons.mpr ⟨ok_iload_n F dX3_countMinute_23 rfl (by decide), ?_⟩
  refine List.forall_mem_cons.mpr ⟨ok_dup2 F dX3_countMinute_24 (by decide), ?_⟩
  refine List.forall_mem_cons.mpr ⟨ok_iald F dX3_countMinute_25 (by decide), ?_⟩
  refine List.forall_mem_cons.mpr ⟨ok_iconst F dX3_countMinute_26 (by decide) (by decide), ?_⟩
  refine List.forall_mem_cons.mpr ⟨ok_iadd F dX3_countMinute_27 (by decide), ?_⟩
  refine List.forall_mem_cons.mpr ⟨ok_iast F pW_sar dX3_countMinute_28 (by decide), ?_⟩
  refine List.forall_mem_cons.mpr ⟨ok_aload_n F dX3_countMinute_29 rfl (by decide), ?_⟩
  refine List.forall_mem_cons.mpr ⟨ok_getf F flX3_31 dX3_countMinute_30 (by decide), ?_⟩
  refine List.forall_mem_cons.mpr ⟨ok_iload_n F dX3_countMinute_33 rfl (by decide), ?_⟩
  refine List.forall_mem_cons.mpr ⟨ok_dup2 F dX3_countMinute_34 (by decide), ?_⟩
  refine List.forall_mem_cons.mpr ⟨ok_iald F dX3_countMinute_35 (by decide), ?_⟩
  refine List.forall_mem_cons.mpr ⟨ok_iconst F dX3_countMinute_36 (by decide) (by decide), ?_⟩
  refine List.forall_mem_cons.mpr ⟨ok_iadd F dX3_countMinute_37 (by decide), ?_⟩
  refine List.forall_mem_cons.mpr ⟨ok_iast F pW_sar dX3_countMinute_38 (by decide), ?_⟩
  refine List.forall_mem_cons.mpr ⟨ok_iinc F dX3_countMinute_39 (by decide) (by decide) (by decide), ?_⟩
  refine List.forall_mem_cons.mpr ⟨ok_goto F dX3_countMinute_42 (by decide) (by decide) (by decide), ?_⟩
  refine List.forall_mem_cons.mpr ⟨ok_vret F G dX3_countMinute_45 (by decide), ?_⟩
  exact fun _ h => absurd h List.not_mem_nil
set_option maxRecDepth 100000 in
theorem w_X3_countMinute : (∀ (K : Kt PT) (n : Nat) (L : xL) (st : List Value) (S : PT), nx cod_X3_countMinute cut_X3_countMinute K (n + 1) 0 L st S = (O_int 0 1) (nx cod_X3_countMinute cut_X3_countMinute K n) 0 L st S) ∧
  (∀ (K : Kt PT) (n : Nat) (L : xL) (st : List Value) (S : PT), nx cod_X3_countMinute cut_X3_countMinute K (n + 1) 1 L st S = (O_istore 1 1) (nx cod_X3_countMinute cut_X3_countMinute K n) 1 L st S) ∧
  (∀ (K : Kt PT) (n : Nat) (L : xL) (st : List Value) (S : PT), nx cod_X3_countMinute cut_X3_countMinute K (n + 1) 2 L st S = K 2 L st S) ∧
  (∀ (K : Kt PT) (n : Nat) (L : xL) (st : List Value) (S : PT), nx1 cod_X3_countMinute cut_X3_countMinute K n 2 L st S = (O_iload 1 1) (nx cod_X3_countMinute cut_X3_countMinute K n) 2 L st S) ∧
  (∀ (K : Kt PT) (n : Nat) (L : xL) (st : List Value) (S : PT), nx cod_X3_countMinute cut_X3_countMinute K (n + 1) 3 L st S = (O_aload 0 1) (nx cod_X3_countMinute cut_X3_countMinute K n) 3 L st S) ∧
  (∀ (K : Kt PT) (n : Nat) (L : xL) (st : List Value) (S : PT), nx cod_X3_countMinute cut_X3_countMinute K (n + 1) 4 L st S = (O_getf pW 3 8) (nx cod_X3_countMinute cut_X3_countMinute K n) 4 L st S) ∧
  (∀ (K : Kt PT) (n : Nat) (L : xL) (st : List Value) (S : PT), nx cod_X3_countMinute cut_X3_countMinute K (n + 1) 7 L st S = (O_icmp_ge 45) (nx cod_X3_countMinute cut_X3_countMinute K n) 7 L st S) ∧
  (∀ (K : Kt PT) (n : Nat) (L : xL) (st : List Value) (S : PT), nx cod_X3_countMinute cut_X3_countMinute K (n + 1) 10 L st S = (O_aload 0 1) (nx cod_X3_countMinute cut_X3_countMinute K n) 10 L st S) ∧
  (∀ (K : Kt PT) (n : Nat) (L : xL) (st : List Value) (S : PT), nx cod_X3_countMinute cut_X3_countMinute K (n + 1) 11 L st S = (O_getf pW 3 4) (nx cod_X3_countMinute cut_X3_countMinute K n) 11 L st S) ∧
  (∀ (K : Kt PT) (n : Nat) (L : xL) (st : List Value) (S : PT), nx cod_X3_countMinute cut_X3_countMinute K (n + 1) 14 L st S = (O_iload 1 1) (nx cod_X3_countMinute cut_X3_countMinute K n) 14 L st S) ∧
  (∀ (K : Kt PT) (n : Nat) (L : xL) (st : List Value) (S : PT), nx cod_X3_countMinute cut_X3_countMinute K (n + 1) 15 L st S = (O_ald pW 0) (nx cod_X3_countMinute cut_X3_countMinute K n) 15 L st S) ∧
  (∀ (K : Kt PT) (n : Nat) (L : xL) (st : List Value) (S : PT), nx cod_X3_countMinute cut_X3_countMinute K (n + 1) 16 L st S = (O_if_le 39) (nx cod_X3_countMinute cut_X3_countMinute K n) 16 L st S) ∧
  (∀ (K : Kt PT) (n : Nat) (L : xL) (st : List Value) (S : PT), nx cod_X3_countMinute cut_X3_countMinute K (n + 1) 19 L st S = (O_aload 0 1) (nx cod_X3_countMinute cut_X3_countMinute K n) 19 L st S) ∧
  (∀ (K : Kt PT) (n : Nat) (L : xL) (st : List Value) (S : PT), nx cod_X3_countMinute cut_X3_countMinute K (n + 1) 20 L st S = (O_getf pW 3 5) (nx cod_X3_countMinute cut_X3_countMinute K n) 20 L st S) ∧
  (∀ (K : Kt PT) (n : Nat) (L : xL) (st : List Value) (S : PT), nx cod_X3_countMinute cut_X3_countMinute K (n + 1) 23 L st S = (O_iload 1 1) (nx cod_X3_countMinute cut_X3_countMinute K n) 23 L st S) ∧
  (∀ (K : Kt PT) (n : Nat) (L : xL) (st : List Value) (S : PT), nx cod_X3_countMinute cut_X3_countMinute K (n + 1) 24 L st S = (O_dup2) (nx cod_X3_countMinute cut_X3_countMinute K n) 24 L st S) ∧
  (∀ (K : Kt PT) (n : Nat) (L : xL) (st : List Value) (S : PT), nx cod_X3_countMinute cut_X3_countMinute K (n + 1) 25 L st S = (O_ald pW 0) (nx cod_X3_countMinute cut_X3_countMinute K n) 25 L st S) ∧
  (∀ (K : Kt PT) (n : Nat) (L : xL) (st : List Value) (S : PT), nx cod_X3_countMinute cut_X3_countMinute K (n + 1) 26 L st S = (O_int 1 1) (nx cod_X3_countMinute cut_X3_countMinute K n) 26 L st S) ∧
  (∀ (K : Kt PT) (n : Nat) (L : xL) (st : List Value) (S : PT), nx cod_X3_countMinute cut_X3_countMinute K (n + 1) 27 L st S = (O_iadd) (nx cod_X3_countMinute cut_X3_countMinute K n) 27 L st S) ∧
  (∀ (K : Kt PT) (n : Nat) (L : xL) (st : List Value) (S : PT), nx cod_X3_countMinute cut_X3_countMinute K (n + 1) 28 L st S = (O_ast pW 0 pW_sa) (nx cod_X3_countMinute cut_X3_countMinute K n) 28 L st S) ∧
  (∀ (K : Kt PT) (n : Nat) (L : xL) (st : List Value) (S : PT), nx cod_X3_countMinute cut_X3_countMinute K (n + 1) 29 L st S = (O_aload 0 1) (nx cod_X3_countMinute cut_X3_countMinute K n) 29 L st S) ∧
  (∀ (K : Kt PT) (n : Nat) (L : xL) (st : List Value) (S : PT), nx cod_X3_countMinute cut_X3_countMinute K (n + 1) 30 L st S = (O_getf pW 3 6) (nx cod_X3_countMinute cut_X3_countMinute K n) 30 L st S) ∧
  (∀ (K : Kt PT) (n : Nat) (L : xL) (st : List Value) (S : PT), nx cod_X3_countMinute cut_X3_countMinute K (n + 1) 33 L st S = (O_iload 1 1) (nx cod_X3_countMinute cut_X3_countMinute K n) 33 L st S) ∧
  (∀ (K : Kt PT) (n : Nat) (L : xL) (st : List Value) (S : PT), nx cod_X3_countMinute cut_X3_countMinute K (n + 1) 34 L st S = (O_dup2) (nx cod_X3_countMinute cut_X3_countMinute K n) 34 L st S) ∧
  (∀ (K : Kt PT) (n : Nat) (L : xL) (st : List Value) (S : PT), nx cod_X3_countMinute cut_X3_countMinute K (n + 1) 35 L st S = (O_ald pW 0) (nx cod_X3_countMinute cut_X3_countMinute K n) 35 L st S) ∧
  (∀ (K : Kt PT) (n : Nat) (L : xL) (st : List Value) (S : PT), nx cod_X3_countMinute cut_X3_countMinute K (n + 1) 36 L st S = (O_int 1 1) (nx cod_X3_countMinute cut_X3_countMinute K n) 36 L st S) ∧
  (∀ (K : Kt PT) (n : Nat) (L : xL) (st : List Value) (S : PT), nx cod_X3_countMinute cut_X3_countMinute K (n + 1) 37 L st S = (O_iadd) (nx cod_X3_countMinute cut_X3_countMinute K n) 37 L st S) ∧
  (∀ (K : Kt PT) (n : Nat) (L : xL) (st : List Value) (S : PT), nx cod_X3_countMinute cut_X3_countMinute K (n + 1) 38 L st S = (O_ast pW 0 pW_sa) (nx cod_X3_countMinute cut_X3_countMinute K n) 38 L st S) ∧
  (∀ (K : Kt PT) (n : Nat) (L : xL) (st : List Value) (S : PT), nx cod_X3_countMinute cut_X3_countMinute K (n + 1) 39 L st S = (O_iinc 1 1) (nx cod_X3_countMinute cut_X3_countMinute K n) 39 L st S) ∧
  (∀ (K : Kt PT) (n : Nat) (L : xL) (st : List Value) (S : PT), nx cod_X3_countMinute cut_X3_countMinute K (n + 1) 42 L st S = (O_goto 2) (nx cod_X3_countMinute cut_X3_countMinute K n) 42 L st S) ∧
  (∀ (K : Kt PT) (n : Nat) (L : xL) (st : List Value) (S : PT), nx cod_X3_countMinute cut_X3_countMinute K (n + 1) 45 L st S = (O_vret) (nx cod_X3_countMinute cut_X3_countMinute K n) 45 L st S) ∧
  (∀ (K : Kt PT) (n : Nat) (L : xL) (st : List Value) (S : PT), nx cod_X3_countMinute cut_X3_countMinute K (n + 1) 100000 L st S = K 100000 L st S) := by
  repeat' apply And.intro
  all_goals (intros; rfl)
set_option maxRecDepth 100000 in
theorem mk_X3_countMinute {P P' : PT} {r : Option Value}  (body : ∀ E : En, CodOk E pW cod_X3_countMinute → Gd E pW 100000 [] r.toList P' → Gd E pW 0 [some (.ref 0), none] [] P) : Con yX3_countMinute cX3_countMinute 2 none 0 pW [.ref 0] P r P' :=
  Con.of (by decide) rfl rfl (Nat.le_of_ble_eq_true rfl) (fun E F G hr => body E (okc_X3_countMinute F G) hr)
theorem con_X3_countMinute (S : PT)  (hp : S.ok) : Con yX3_countMinute cX3_countMinute 2 none 0 pW [.ref 0] S (none) (S.countM) := by
  refine mk_X3_countMinute (fun E C hr => ?_)
  (refine nx_ok C (cuts := cut_X3_countMinute) 1000 _ _ _ _ ?_; simp only [w_X3_countMinute, ops_eq, xst_eq, call_eq, oK_eq, Option.toList_some, Option.toList_none, List.cons_append, List.nil_append, List.length_cons, List.length_nil, true_and, and_true, Nat.reduceAdd, pW_F, pW_A, pW_S, pW_P, PT_gs])
  refine it_up (f := PT.cm) (n := S.n) (fun _ T => T.size = S.size) (fun i T => Gd E pW 2 [some (.ref 0), some (.int (nI i))] [] T) rfl (fun i T hi hT => by unfold PT.cm; split <;> exact hT) (fun i T hi hT hn => ?_) ?_
  · have hx := ixs hp hi
    (refine nx1_ok C cut_X3_countMinute 1000 ?_; simp only [w_X3_countMinute, ops_eq, xst_eq, call_eq, oK_eq, Option.toList_some, Option.toList_none, List.cons_append, List.nil_append, List.length_cons, List.length_nil, true_and, and_true, Nat.reduceAdd, pW_F, pW_A, pW_S, pW_P, PT_gs, hx, hT])
    ((repeat' (with_reducible first | apply And.intro | intro _)) <;> simp_all [PT.cm, PT.run, PT_gs])
  · have hx := ixe hp
    have hT : (it PT.cm S S.n).size = S.size := it_inv (fun _ (T : PT) => T.size = S.size) rfl (fun i T hi hT => by unfold PT.cm; split <;> exact hT)
    (refine nx1_ok C cut_X3_countMinute 1000 ?_; simp only [w_X3_countMinute, ops_eq, xst_eq, call_eq, oK_eq, Option.toList_some, Option.toList_none, List.cons_append, List.nil_append, List.length_cons, List.length_nil, true_and, and_true, Nat.reduceAdd, pW_F, pW_A, pW_S, pW_P, PT_gs, hx, hT])
    ((repeat' (with_reducible first | apply And.intro | intro _)) <;> simp_all [PT.countM, PT_gs])
def sp_X3_countMinute : Sp PT := fun av S K => match av with
  | [.ref 0] => (S.ok) ∧ K (none) (S.countM)
  | _ => False
theorem se_X3_countMinute  (S : PT) (K : Option Value → PT → Prop) : sp_X3_countMinute [.ref 0] S K = ((S.ok) ∧ K (none) (S.countM)) := rfl
theorem spok_X3_countMinute : SpOk yX3_countMinute cX3_countMinute 2 none 0 pW sp_X3_countMinute := by
  intro av S K h
  unfold sp_X3_countMinute at h
  split at h
  · exact ⟨none, S.countM, trivial, con_X3_countMinute S  h.1, h.2⟩
  · exact h.elim
def PT.mm (S : PT) : Int32 × Int32 := it (fun p (q : Int32 × Int32) => (if S.minutes (p + 1) < q.1 then S.minutes (p + 1) else q.1, if q.2 < S.minutes (p + 1) then S.minutes (p + 1) else q.2)) (S.minutes 0, S.minutes 0) (S.n - 1)
def cod_X3_differenceOfMinutes : List (Nat × Op PT) := [(0, O_aload 0 1), (1, O_getf pW 3 5), (4, O_int 0 1), (5, O_ald pW 0), (6, O_istore 1 1), (7, O_aload 0 1), (8, O_getf pW 3 5), (11, O_int 0 1), (12, O_ald pW 0), (13, O_istore 2 1), (14, O_int 1 1), (15, O_istore 3 1), (16, O_iload 3 1), (17, O_aload 0 1), (18, O_getf pW 3 8), (21, O_icmp_ge 52), (24, O_iload 1 1), (25, O_aload 0 1), (26, O_getf pW 3 5), (29, O_iload 3 1), (30, O_ald pW 0), (31, O_min), (34, O_istore 1 1), (35, O_iload 2 1), (36, O_aload 0 1), (37, O_getf pW 3 5), (40, O_iload 3 1), (41, O_ald pW 0), (42, O_max), (45, O_istore 2 1), (46, O_iinc 3 1), (49, O_goto 16), (52, O_iload 2 1), (53, O_iload 1 1), (54, O_isub), (55, O_iret)]
abbrev cut_X3_differenceOfMinutes : List Nat := [16]
set_option maxRecDepth 100000 in
theorem okc_X3_differenceOfMinutes {E : En} (F : Fx E RX3 cX3_differenceOfMinutes 4 1) (G : Fr E (some .int)) : CodOk E pW cod_X3_differenceOfMinutes := by
  unfold CodOk cod_X3_differenceOfMinutes
  refine List.forall_mem_cons.mpr ⟨ok_aload_n F dX3_differenceOfMinutes_0 rfl (by decide), ?_⟩
  refine List.forall_mem_cons.mpr ⟨ok_getf F flX3_28 dX3_differenceOfMinutes_1 (by decide), ?_⟩
  refine List.forall_mem_cons.mpr ⟨ok_iconst F dX3_differenceOfMinutes_4 (by decide) (by decide), ?_⟩
  refine List.forall_mem_cons.mpr ⟨ok_iald F dX3_differenceOfMinutes_5 (by decide), ?_⟩
  refine List.forall_mem_cons.mpr ⟨ok_istore_n F dX3_differenceOfMinutes_6 rfl (by decide) (by decide), ?_⟩
  refine List.forall_mem_cons.mpr ⟨ok_aload_n F dX3_differenceOfMinutes_7 rfl (by decide), ?_⟩
  refine List.forall_mem_cons.mpr ⟨ok_getf F flX3_28 dX3_differenceOfMinutes_8 (by decide), ?_⟩
  refine List.forall_mem_cons.mpr ⟨ok_iconst F dX3_differenceOfMinutes_11 (by decide) (by decide), ?_⟩
  refine List.forall_mem_cons.mpr ⟨ok_iald F dX3_differenceOfMinutes_12 (by decide), ?_⟩
  refine List.forall_mem_cons.mpr ⟨ok_istore_n F dX3_differenceOfMinutes_13 rfl (by decide) (by decide), ?_⟩
  refine List.forall_mem_cons.mpr ⟨ok_iconst F dX3_differenceOfMinutes_14 (by decide) (by decide), ?_⟩
  refine List.forall_mem_cons.mpr ⟨ok_istore_n F dX3_differenceOfMinutes_15 rfl (by decide) (by decide), ?_⟩
  refine List.forall_mem_cons.mpr ⟨ok_iload_n F dX3_differenceOfMinutes_16 rfl (by decide), ?_⟩
  refine List.forall_mem_cons.mpr ⟨ok_aload_n F dX3_differenceOfMinutes_17 rfl (by decide), ?_⟩
  refine List.forall_mem_cons.mpr ⟨ok_getf F flX3_47 dX3_differenceOfMinutes_18 (by decide), ?_⟩
  refine List.forall_mem_cons.mpr ⟨ok_icmp_ge F dX3_differenceOfMinutes_21 (by decide) (by decide) (by decide), ?_⟩
  refine List.forall_mem_cons.mpr ⟨ok_iload_n F dX3_differenceOfMinutes_24 rfl (by decide), ?_⟩
  refine List.forall_mem_cons.mpr ⟨ok_aload_n F dX3_differenceOfMinutes_25 rfl (by decide), ?_⟩
  refine List.forall_mem_cons.mpr ⟨ok_getf F flX3_28 dX3_differenceOfMinutes_26 (by decide), ?_⟩
  refine List.forall_mem_cons.mpr ⟨ok_iload_n F dX3_differenceOfMinutes_29 rfl (by decide), ?_⟩
  refine List.forall_mem_cons.mpr ⟨ok_iald F dX3_differenceOfMinutes_30 (by decide), ?_⟩
  refine List.forall_mem_cons.mpr ⟨ok_min F (by decide +kernel) (by decide) dX3_differenceOfMinutes_31 (by decide), ?_⟩
  refine List.forall_mem_cons.mpr ⟨ok_istore_n F dX3_differenceOfMinutes_34 rfl (by decide) (by decide), ?_⟩
  refine List.forall_mem_cons.mpr ⟨ok_iload_n F dX3_differenceOfMinutes_35 rfl (by decide), ?_⟩
  refine List.forall_mem_cons.mpr ⟨ok_aload_n F dX3_differenceOfMinutes_36 rfl (by decide), ?_⟩
  refine List.forall_mem_cons.mpr ⟨ok_getf F flX3_28 dX3_differenceOfMinutes_37 (by decide), ?_⟩
  refine List.forall_mem_cons.mpr ⟨ok_iload_n F dX3_differenceOfMinutes_40 rfl (by decide), ?_⟩
  refine List.forall_mem_cons.mpr ⟨ok_iald F dX3_differenceOfMinutes_41 (by decide), ?_⟩
  refine List.forall_mem_cons.mpr ⟨ok_max F (by decide +kernel) (by decide) dX3_differenceOfMinutes_42 (by decide), ?_⟩
  refine List.forall_mem_cons.mpr ⟨ok_istore_n F dX3_differenceOfMinutes_45 rfl (by decide) (by decide), ?_⟩
  refine List.forall_mem_cons.mpr ⟨ok_iinc F dX3_differenceOfMinutes_46 (by decide) (by decide) (by decide), ?_⟩
  refine List.forall_mem_cons.mpr ⟨ok_goto F dX3_differenceOfMinutes_49 (by decide) (by decide) (by decide), ?_⟩
  refine List.forall_mem_cons.mpr ⟨ok_iload_n F dX3_differenceOfMinutes_52 rfl (by decide), ?_⟩
  refine List.forall_mem_cons.mpr ⟨ok_iload_n F dX3_differenceOfMinutes_53 rfl (by decide), ?_⟩
  refine List.forall_mem_cons.mpr ⟨ok_isub F dX3_differenceOfMinutes_54 (by decide), ?_⟩
  refine List.forall_mem_cons.mpr ⟨ok_iret F G dX3_differenceOfMinutes_55 (by decide), ?_⟩
  exact fun _ h => absurd h List.not_mem_nil
set_option maxRecDepth 100000 in
theorem w_X3_differenceOfMinutes : (∀ (K : Kt PT) (n : Nat) (L : xL) (st : List Value) (S : PT), nx cod_X3_differenceOfMinutes cut_X3_differenceOfMinutes K (n + 1) 0 L st S = (O_aload 0 1) (nx cod_X3_differenceOfMinutes cut_X3_differenceOfMinutes K n) 0 L st S) ∧
  (∀ (K : Kt PT) (n : Nat) (L : xL) (st : List Value) (S : PT), nx cod_X3_differenceOfMinutes cut_X3_differenceOfMinutes K (n + 1) 1 L st S = (O_getf pW 3 5) (nx cod_X3_differenceOfMinutes cut_X3_differenceOfMinutes K n) 1 L st S) ∧
  (∀ (K : Kt PT) (n : Nat) (L : xL) (st : List Value) (S : PT), nx cod_X3_differenceOfMinutes cut_X3_differenceOfMinutes K (n + 1) 4 L st S = (O_int 0 1) (nx cod_X3_differenceOfMinutes cut_X3_differenceOfMinutes K n) 4 L st S) ∧
  (∀ (K : Kt PT) (n : Nat) (L : xL) (st : List Value) (S : PT), nx cod_X3_differenceOfMinutes cut_X3_differenceOfMinutes K (n + 1) 5 L st S = (O_ald pW 0) (nx cod_X3_differenceOfMinutes cut_X3_differenceOfMinutes K n) 5 L st S) ∧
  (∀ (K : Kt PT) (n : Nat) (L : xL) (st : List Value) (S : PT), nx cod_X3_differenceOfMinutes cut_X3_differenceOfMinutes K (n + 1) 6 L st S = (O_istore 1 1) (nx cod_X3_differenceOfMinutes cut_X3_differenceOfMinutes K n) 6 L st S) ∧
  (∀ (K : Kt PT) (n : Nat) (L : xL) (st : List Value) (S : PT), nx cod_X3_differenceOfMinutes cut_X3_differenceOfMinutes K (n + 1) 7 L st S = (O_aload 0 1) (nx cod_X3_differenceOfMinutes cut_X3_differenceOfMinutes K n) 7 L st S) ∧
  (∀ (K : Kt PT) (n : Nat) (L : xL) (st : List Value) (S : PT), nx cod_X3_differenceOfMinutes cut_X3_differenceOfMinutes K (n + 1) 8 L st S = (O_getf pW 3 5) (nx cod_X3_differenceOfMinutes cut_X3_differenceOfMinutes K n) 8 L st S) ∧
  (∀ (K : Kt PT) (n : Nat) (L : xL) (st : List Value) (S : PT), nx cod_X3_differenceOfMinutes cut_X3_differenceOfMinutes K (n + 1) 11 L st S = (O_int 0 1) (nx cod_X3_differenceOfMinutes cut_X3_differenceOfMinutes K n) 11 L st S) ∧
  (∀ (K : Kt PT) (n : Nat) (L : xL) (st : List Value) (S : PT), nx cod_X3_differenceOfMinutes cut_X3_differenceOfMinutes K (n + 1) 12 L st S = (O_ald pW 0) (nx cod_X3_differenceOfMinutes cut_X3_differenceOfMinutes K n) 12 L st S) ∧
  (∀ (K : Kt PT) (n : Nat) (L : xL) (st : List Value) (S : PT), nx cod_X3_differenceOfMinutes cut_X3_differenceOfMinutes K (n + 1) 13 L st S = (O_istore 2 1) (nx cod_X3_differenceOfMinutes cut_X3_differenceOfMinutes K n) 13 L st S) ∧
  (∀ (K : Kt PT) (n : Nat) (L : xL) (st : List Value) (S : PT), nx cod_X3_differenceOfMinutes cut_X3_differenceOfMinutes K (n + 1) 14 L st S = (O_int 1 1) (nx cod_X3_differenceOfMinutes cut_X3_differenceOfMinutes K n) 14 L st S) ∧
  (∀ (K : Kt PT) (n : Nat) (L : xL) (st : List Value) (S : PT), nx cod_X3_differenceOfMinutes cut_X3_differenceOfMinutes K (n + 1) 15 L st S = (O_istore 3 1) (nx cod_X3_differenceOfMinutes cut_X3_differenceOfMinutes K n) 15 L st S) ∧
  (∀ (K : Kt PT) (n : Nat) (L : xL) (st : List Value) (S : PT), nx cod_X3_differenceOfMinutes cut_X3_differenceOfMinutes K (n + 1) 16 L st S = K 16 L st S) ∧
  (∀ (K : Kt PT) (n : Nat) (L : xL) (st : List Value) (S : PT), nx1 cod_X3_differenceOfMinutes cut_X3_differenceOfMinutes K n 16 L st S = (O_iload 3 1) (nx cod_X3_differenceOfMinutes cut_X3_differenceOfMinutes K n) 16 L st S) ∧
  (∀ (K : Kt PT) (n : Nat) (L : xL) (st : List Value) (S : PT), nx cod_X3_differenceOfMinutes cut_X3_differenceOfMinutes K (n + 1) 17 L st S = (O_aload 0 1) (nx cod_X3_differenceOfMinutes cut_X3_differenceOfMinutes K n) 17 L st S) ∧
  (∀ (K : Kt PT) (n : Nat) (L : xL) (st : List Value) (S : PT), nx cod_X3_differenceOfMinutes cut_X3_differenceOfMinutes K (n + 1) 18 L st S = (O_getf pW 3 8) (nx cod_X3_differenceOfMinutes cut_X3_differenceOfMinutes K n) 18 L st S) ∧
  (∀ (K : Kt PT) (n : Nat) (L : xL) (st : List Value) (S : PT), nx cod_X3_differenceOfMinutes cut_X3_differenceOfMinutes K (n + 1) 21 L st S = (O_icmp_ge 52) (nx cod_X3_differenceOfMinutes cut_X3_differenceOfMinutes K n) 21 L st S) ∧
  (∀ (K : Kt PT) (n : Nat) (L : xL) (st : List Value) (S : PT), nx cod_X3_differenceOfMinutes cut_X3_differenceOfMinutes K (n + 1) 24 L st S = (O_iload 1 1) (nx cod_X3_differenceOfMinutes cut_X3_differenceOfMinutes K n) 24 L st S) ∧
  (∀ (K : Kt PT) (n : Nat) (L : xL) (st : List Value) (S : PT), nx cod_X3_differenceOfMinutes cut_X3_differenceOfMinutes K (n + 1) 25 L st S = (O_aload 0 1) (nx cod_X3_differenceOfMinutes cut_X3_differenceOfMinutes K n) 25 L st S) ∧
  (∀ (K : Kt PT) (n : Nat) (L : xL) (st : List Value) (S : PT), nx cod_X3_differenceOfMinutes cut_X3_differenceOfMinutes K (n + 1) 26 L st S = (O_getf pW 3 5) (nx cod_X3_differenceOfMinutes cut_X3_differenceOfMinutes K n) 26 L st S) ∧
  (∀ (K : Kt PT) (n : Nat) (L : xL) (st : List Value) (S : PT), nx cod_X3_differenceOfMinutes cut_X3_differenceOfMinutes K (n + 1) 29 L st S = (O_iload 3 1) (nx cod_X3_differenceOfMinutes cut_X3_differenceOfMinutes K n) 29 L st S) ∧
  (∀ (K : Kt PT) (n : Nat) (L : xL) (st : List Value) (S : PT), nx cod_X3_differenceOfMinutes cut_X3_differenceOfMinutes K (n + 1) 30 L st S = (O_ald pW 0) (nx cod_X3_differenceOfMinutes cut_X3_differenceOfMinutes K n) 30 L st S) ∧
  (∀ (K : Kt PT) (n : Nat) (L : xL) (st : List Value) (S : PT), nx cod_X3_differenceOfMinutes cut_X3_differenceOfMinutes K (n + 1) 31 L st S = (O_min) (nx cod_X3_differenceOfMinutes cut_X3_differenceOfMinutes K n) 31 L st S) ∧
  (∀ (K : Kt PT) (n : Nat) (L : xL) (st : List Value) (S : PT), nx cod_X3_differenceOfMinutes cut_X3_differenceOfMinutes K (n + 1) 34 L st S = (O_istore 1 1) (nx cod_X3_differenceOfMinutes cut_X3_differenceOfMinutes K n) 34 L st S) ∧
  (∀ (K : Kt PT) (n : Nat) (L : xL) (st : List Value) (S : PT), nx cod_X3_differenceOfMinutes cut_X3_differenceOfMinutes K (n + 1) 35 L st S = (O_iload 2 1) (nx cod_X3_differenceOfMinutes cut_X3_differenceOfMinutes K n) 35 L st S) ∧
  (∀ (K : Kt PT) (n : Nat) (L : xL) (st : List Value) (S : PT), nx cod_X3_differenceOfMinutes cut_X3_differenceOfMinutes K (n + 1) 36 L st S = (O_aload 0 1) (nx cod_X3_differenceOfMinutes cut_X3_differenceOfMinutes K n) 36 L st S) ∧
  (∀ (K : Kt PT) (n : Nat) (L : xL) (st : List Value) (S : PT), nx cod_X3_differenceOfMinutes cut_X3_differenceOfMinutes K (n + 1) 37 L st S = (O_getf pW 3 5) (nx cod_X3_differenceOfMinutes cut_X3_differenceOfMinutes K n) 37 L st S) ∧
  (∀ (K : Kt PT) (n : Nat) (L : xL) (st : List Value) (S : PT), nx cod_X3_differenceOfMinutes cut_X3_differenceOfMinutes K (n + 1) 40 L st S = (O_iload 3 1) (nx cod_X3_differenceOfMinutes cut_X3_differenceOfMinutes K n) 40 L st S) ∧
  (∀ (K : Kt PT) (n : Nat) (L : xL) (st : List Value) (S : PT), nx cod_X3_differenceOfMinutes cut_X3_differenceOfMinutes K (n + 1) 41 L st S = (O_ald pW 0) (nx cod_X3_differenceOfMinutes cut_X3_differenceOfMinutes K n) 41 L st S) ∧
  (∀ (K : Kt PT) (n : Nat) (L : xL) (st : List Value) (S : PT), nx cod_X3_differenceOfMinutes cut_X3_differenceOfMinutes K (n + 1) 42 L st S = (O_max) (nx cod_X3_differenceOfMinutes cut_X3_differenceOfMinutes K n) 42 L st S) ∧
  (∀ (K : Kt PT) (n : Nat) (L : xL) (st : List Value) (S : PT), nx cod_X3_differenceOfMinutes cut_X3_differenceOfMinutes K (n + 1) 45 L st S = (O_istore 2 1) (nx cod_X3_differenceOfMinutes cut_X3_differenceOfMinutes K n) 45 L st S) ∧
  (∀ (K : Kt PT) (n : Nat) (L : xL) (st : List Value) (S : PT), nx cod_X3_differenceOfMinutes cut_X3_differenceOfMinutes K (n + 1) 46 L st S = (O_iinc 3 1) (nx cod_X3_differenceOfMinutes cut_X3_differenceOfMinutes K n) 46 L st S) ∧
  (∀ (K : Kt PT) (n : Nat) (L : xL) (st : List Value) (S : PT), nx cod_X3_differenceOfMinutes cut_X3_differenceOfMinutes K (n + 1) 49 L st S = (O_goto 16) (nx cod_X3_differenceOfMinutes cut_X3_differenceOfMinutes K n) 49 L st S) ∧
  (∀ (K : Kt PT) (n : Nat) (L : xL) (st : List Value) (S : PT), nx cod_X3_differenceOfMinutes cut_X3_differenceOfMinutes K (n + 1) 52 L st S = (O_iload 2 1) (nx cod_X3_differenceOfMinutes cut_X3_differenceOfMinutes K n) 52 L st S) ∧
  (∀ (K : Kt PT) (n : Nat) (L : xL) (st : List Value) (S : PT), nx cod_X3_differenceOfMinutes cut_X3_differenceOfMinutes K (n + 1) 53 L st S = (O_iload 1 1) (nx cod_X3_differenceOfMinutes cut_X3_differenceOfMinutes K n) 53 L st S) ∧
  (∀ (K : Kt PT) (n : Nat) (L : xL) (st : List Value) (S : PT), nx cod_X3_differenceOfMinutes cut_X3_differenceOfMinutes K (n + 1) 54 L st S = (O_isub) (nx cod_X3_differenceOfMinutes cut_X3_differenceOfMinutes K n) 54 L st S) ∧
  (∀ (K : Kt PT) (n : Nat) (L : xL) (st : List Value) (S : PT), nx cod_X3_differenceOfMinutes cut_X3_differenceOfMinutes K (n + 1) 55 L st S = (O_iret) (nx cod_X3_differenceOfMinutes cut_X3_differenceOfMinutes K n) 55 L st S) ∧
  (∀ (K : Kt PT) (n : Nat) (L : xL) (st : List Value) (S : PT), nx cod_X3_differenceOfMinutes cut_X3_differenceOfMinutes K (n + 1) 100000 L st S = K 100000 L st S) := by
  repeat' apply And.intro
  all_goals (intros; rfl)
set_option maxRecDepth 100000 in
theorem mk_X3_differenceOfMinutes {P P' : PT} {r : Option Value}  (body : ∀ E : En, CodOk E pW cod_X3_differenceOfMinutes → Gd E pW 100000 [] r.toList P' → Gd E pW 0 [some (.ref 0), none, none, none] [] P) : Con yX3_differenceOfMinutes cX3_differenceOfMinutes 4 (some .int) 1 pW [.ref 0] P r P' :=
  Con.of (by decide) rfl rfl (Nat.le_of_ble_eq_true rfl) (fun E F G hr => body E (okc_X3_differenceOfMinutes F G) hr)
theorem con_X3_differenceOfMinutes (S : PT)  (hp : S.ok ∧ 0 < S.n) : Con yX3_differenceOfMinutes cX3_differenceOfMinutes 4 (some .int) 1 pW [.ref 0] S (some (.int (S.mm.2 - S.mm.1))) (S) := by
  refine mk_X3_differenceOfMinutes (fun E C hr => ?_)
  (refine nx_ok C (cuts := cut_X3_differenceOfMinutes) 1000 _ _ _ _ ?_; simp only [w_X3_differenceOfMinutes, ops_eq, xst_eq, call_eq, oK_eq, Option.toList_some, Option.toList_none, List.cons_append, List.nil_append, List.length_cons, List.length_nil, true_and, and_true, Nat.reduceAdd, pW_F, pW_A, pW_S, pW_P, PT_gs, show vp_in 0 6 from by unfold vp_in; decide, cl_eq])
  refine it_up (f := fun p (q : Int32 × Int32) => (if S.minutes (p + 1) < q.1 then S.minutes (p + 1) else q.1, if q.2 < S.minutes (p + 1) then S.minutes (p + 1) else q.2)) (a := (S.minutes 0, S.minutes 0)) (n := S.n - 1) (fun _ _ => True) (fun i q => Gd E pW 16 [some (.ref 0), some (.int q.1), some (.int q.2), some (.int (nI (i + 1)))] [] S) trivial (fun _ _ _ _ => trivial) (fun i r hi _ hn => ?_) ?_
  · have hx := ixs hp.1 (i := i + 1) (by omega)
    (refine nx1_ok C cut_X3_differenceOfMinutes 1000 ?_; simp only [w_X3_differenceOfMinutes, ops_eq, xst_eq, call_eq, oK_eq, Option.toList_some, Option.toList_none, List.cons_append, List.nil_append, List.length_cons, List.length_nil, true_and, and_true, Nat.reduceAdd, pW_F, pW_A, pW_S, pW_P, PT_gs, hx])
    ((repeat' (with_reducible first | apply And.intro | intro _)) <;> simp_all [PT_gs])
  · have hx := ixe hp.1
    rw [show S.n - 1 + 1 = S.n by omega]
    (refine nx1_ok C cut_X3_differenceOfMinutes 1000 ?_; simp only [w_X3_differenceOfMinutes, ops_eq, xst_eq, call_eq, oK_eq, Option.toList_some, Option.toList_none, List.cons_append, List.nil_append, List.length_cons, List.length_nil, true_and, and_true, Nat.reduceAdd, pW_F, pW_A, pW_S, pW_P, PT_gs, hx])
    ((repeat' (with_reducible first | apply And.intro | intro _)) <;> simp_all [PT.mm, PT_gs])
def sp_X3_differenceOfMinutes : Sp PT := fun av S K => match av with
  | [.ref 0] => (S.ok ∧ 0 < S.n) ∧ K (some (.int (S.mm.2 - S.mm.1))) (S)
  | _ => False
theorem se_X3_differenceOfMinutes  (S : PT) (K : Option Value → PT → Prop) : sp_X3_differenceOfMinutes [.ref 0] S K = ((S.ok ∧ 0 < S.n) ∧ K (some (.int (S.mm.2 - S.mm.1))) (S)) := rfl
theorem spok_X3_differenceOfMinutes : SpOk yX3_differenceOfMinutes cX3_differenceOfMinutes 4 (some .int) 1 pW sp_X3_differenceOfMinutes := by
  intro av S K h
  unfold sp_X3_differenceOfMinutes at h
  split at h
  · exact ⟨some (.int (S.mm.2 - S.mm.1)), S, trivial, con_X3_differenceOfMinutes S  h.1, h.2⟩
  · exact h.elim
def b01 (x : Int32) : Prop := x = 0 ∨ x = 1
theorem b01_fits {x : Int32} (h : b01 x) : fits .boolean (.int x) = true ∧ narrow .boolean (.int x) = .int x ∧ xnar 1 x = x := by
  rcases h with rfl | rfl <;> exact ⟨rfl, rfl, rfl⟩
theorem fits_int : (∀ x : Int32, fits (tagTy 0) (.int x) = true) ∧ (∀ x : Int32, fits (tagTy 1) (.int x) = fits .boolean (.int x)) := ⟨fun _ => rfl, fun _ => rfl⟩
def cod_X3_copyFrom : List (Nat × Op (PT × PT)) := [(0, O_aload 1 1), (1, O_getf pW2 3 0), (4, O_int 0 1), (5, O_aload 0 1), (6, O_getf pW2 3 0), (9, O_int 0 1), (10, O_int 6 2), (12, O_acopy pW2 pW2_sa), (15, O_aload 1 1), (16, O_getf pW2 3 1), (19, O_int 0 1), (20, O_aload 0 1), (21, O_getf pW2 3 1), (24, O_int 0 1), (25, O_int 6 2), (27, O_acopy pW2 pW2_sa), (30, O_aload 1 1), (31, O_getf pW2 3 2), (34, O_int 0 1), (35, O_aload 0 1), (36, O_getf pW2 3 2), (39, O_int 0 1), (40, O_int 6 2), (42, O_acopy pW2 pW2_sa), (45, O_aload 1 1), (46, O_getf pW2 3 3), (49, O_int 0 1), (50, O_aload 0 1), (51, O_getf pW2 3 3), (54, O_int 0 1), (55, O_int 6 2), (57, O_acopy pW2 pW2_sa), (60, O_aload 1 1), (61, O_getf pW2 3 4), (64, O_int 0 1), (65, O_aload 0 1), (66, O_getf pW2 3 4), (69, O_int 0 1), (70, O_int 6 2), (72, O_acopy pW2 pW2_sa), (75, O_aload 1 1), (76, O_getf pW2 3 5), (79, O_int 0 1), (80, O_aload 0 1), (81, O_getf pW2 3 5), (84, O_int 0 1), (85, O_int 6 2), (87, O_acopy pW2 pW2_sa), (90, O_aload 1 1), (91, O_getf pW2 3 6), (94, O_int 0 1), (95, O_aload 0 1), (96, O_getf pW2 3 6), (99, O_int 0 1), (100, O_int 6 2), (102, O_acopy pW2 pW2_sa), (105, O_aload 1 1), (106, O_getf pW2 3 7), (109, O_int 0 1), (110, O_aload 0 1), (111, O_getf pW2 3 7), (114, O_int 0 1), (115, O_int 6 2), (117, O_acopy pW2 pW2_sa), (120, O_aload 0 1), (121, O_aload 1 1), (122, O_getf pW2 3 8), (125, O_puti pW2_p3_8), (128, O_aload 0 1), (129, O_aload 1 1), (130, O_getf pW2 3 9), (133, O_puti pW2_p3_9), (136, O_vret)]
abbrev cut_X3_copyFrom : List Nat := []
set_option maxRecDepth 100000 in
theorem okc_X3_copyFrom {E : En} (F : Fx E RX3 cX3_copyFrom 2 1) (G : Fr E none) : CodOk E pW2 cod_X3_copyFrom := by
  unfold CodOk cod_X3_copyFrom
  refine List.forall_mem_cons.mpr ⟨ok_aload_n F dX3_copyFrom_0 rfl (by decide), ?_⟩
  refine List.forall_mem_cons.mpr ⟨ok_getf F flX3_11 dX3_copyFrom_1 (by decide), ?_⟩
  refine List.forall_mem_cons.mpr ⟨ok_iconst F dX3_copyFrom_4 (by decide) (by decide), ?_⟩
  refine List.forall_mem_cons.mpr ⟨ok_aload_n F dX3_copyFrom_5 rfl (by decide), ?_⟩
  refine List.forall_mem_cons.mpr ⟨ok_getf F flX3_11 dX3_copyFrom_6 (by decide), ?_⟩
  refine List.forall_mem_cons.mpr ⟨ok_iconst F dX3_copyFrom_9 (by decide) (by decide), ?_⟩
  refine List.forall_mem_cons.mpr ⟨ok_bipush F dX3_copyFrom_10 (by decide) (by decide), ?_⟩
  refine List.forall_mem_cons.mpr ⟨ok_acopy F pW2_sar (by decide +kernel) (by decide) dX3_copyFrom_12 (by decide), ?_⟩
  refine List.forall_mem_cons.mpr ⟨ok_aload_n F dX3_copyFrom_15 rfl (by decide), ?_⟩
  refine List.forall_mem_cons.mpr ⟨ok_getf F flX3_15 dX3_copyFrom_16 (by decide), ?_⟩
  refine List.forall_mem_cons.mpr ⟨ok_iconst F dX3_copyFrom_19 (by decide) (by decide), ?_⟩
  refine List.forall_mem_cons.mpr ⟨ok_aload_n F dX3_copyFrom_20 rfl (by decide), ?_⟩
  refine List.forall_mem_cons.mpr ⟨ok_getf F flX3_15 dX3_copyFrom_21 (by decide), ?_⟩
  refine List.forall_mem_cons.mpr ⟨ok_iconst F dX3_copyFrom_24 (by decide) (by decide), ?_⟩
  refine List.forall_mem_cons.mpr ⟨ok_bipush F dX3_copyFrom_25 (by decide) (by decide), ?_⟩
  refine List.forall_mem_cons.mpr ⟨ok_acopy F pW2_sar (by decide +kernel) (by decide) dX3_copyFrom_27 (by decide), ?_⟩
  refine List.forall_mem_cons.mpr ⟨ok_aload_n F dX3_copyFrom_30 rfl (by decide), ?_⟩
  refine List.forall_mem_cons.mpr ⟨ok_getf F flX3_18 dX3_copyFrom_31 (by decide), ?_⟩
  refine List.forall_mem_cons.mpr ⟨ok_iconst F dX3_copyFrom_34 (by decide) (by decide), ?_⟩
  refine List.forall_mem_cons.mpr ⟨ok_aload_n F dX3_copyFrom_35 rfl (by decide), ?_⟩
  refine List.forall_mem_cons.mpr ⟨ok_getf F flX3_18 dX3_copyFrom_36 (by decide), ?_⟩
  refine List.forall_mem_cons.mpr ⟨ok_iconst F dX3_copyFrom_39 (by decide) (by decide), ?_⟩
  refine List.forall_mem_cons.mpr ⟨ok_bipush F dX3_copyFrom_40 (by decide) (by decide), ?_⟩
  refine List.forall_mem_cons.mpr ⟨ok_acopy F pW2_sar (by decide +kernel) (by decide) dX3_copyFrom_42 (by decide), ?_⟩
  refine List.forall_mem_cons.mpr ⟨ok_aload_n F dX3_copyFrom_45 rfl (by decide), ?_⟩
  refine List.forall_mem_cons.mpr ⟨ok_getf F flX3_21 dX3_copyFrom_46 (by decide), ?_⟩
  refine List.forall_mem_cons.mpr ⟨ok_iconst F dX3_copyFrom_49 (by decide) (by decide), ?_⟩
  refine List.forall_mem_cons.mpr ⟨ok_aload_n F dX3_copyFrom_50 rfl (by decide), ?_⟩
  refine List.forall_mem_cons.mpr ⟨ok_getf F flX3_21 dX3_copyFrom_51 (by decide), ?_⟩
  refine List.forall_mem_cons.mpr ⟨ok_iconst F dX3_copyFrom_54 (by decide) (by decide), ?_⟩
  refine List.forall_mem_cons.mpr ⟨ok_bipush F dX3_copyFrom_55 (by decide) (by decide), ?_⟩
  refine List.forall_mem_cons.mpr ⟨ok_acopy F pW2_sar (by decide +kernel) (by decide) dX3_copyFrom_57 (by decide), ?_⟩
  refine List.forall_mem_cons.mpr ⟨ok_aload_n F dX3_copyFrom_60 rfl (by decide), ?_⟩
  refine List.forall_mem_cons.mpr ⟨ok_getf F flX3_25 dX3_copyFrom_61 (by decide), ?_⟩
  refine List.forall_mem_cons.mpr ⟨ok_iconst F dX3_copyFrom_64 (by decide) (by decide), ?_⟩
  refine List.forall_mem_cons.mpr ⟨ok_aload_n F dX3_copyFrom_65 rfl (by decide), ?_⟩
  refine List.forall_mem_cons.mpr ⟨ok_getf F flX3_25 dX3_copyFrom_66 (by decide), ?_⟩
  refine List.forall_mem_cons.mpr ⟨ok_iconst F dX3_copyFrom_69 (by decide) (by decide), ?_⟩
  refine List.forall_mem_cons.mpr ⟨ok_bipush F dX3_copyFrom_70 (by decide) (by decide), ?_⟩
  refine List.forall_mem_cons.mpr ⟨ok_acopy F pW2_sar (by decide +kernel) (by decide) dX3_copyFrom_72 (by decide), ?_⟩
  refine List.forall_mem_cons.mpr ⟨ok_aload_n F dX3_copyFrom_75 rfl (by decide), ?_⟩
  refine List.forall_mem_cons.mpr ⟨ok_getf F flX3_28 dX3_copyFrom_76 (by decide), ?_⟩
  refine List.forall_mem_cons.mpr ⟨ok_iconst F dX3_copyFrom_79 (by decide) (by decide), ?_⟩
  refine List.forall_mem_cons.mpr ⟨ok_aload_n F dX3_copyFrom_80 rfl (by decide), ?_⟩
  refine List.forall_mem_cons.mpr ⟨ok_getf F flX3_28 dX3_copyFrom_81 (by decide), ?_⟩
  refine List.forall_mem_cons.mpr ⟨ok_iconst F dX3_copyFrom_84 (by decide) (by decide), ?_⟩
  refine List.forall_mem_cons.mpr ⟨ok_bipush F dX3_copyFrom_85 (by decide) (by decide), ?_⟩
  refine List.forall_mem_cons.mpr ⟨ok_acopy F pW2_sar (by decide +kernel) (by decide) dX3_copyFrom_87 (by decide), ?_⟩
  refine List.forall_mem_cons.mpr ⟨ok_aload_n F dX3_copyFrom_90 rfl (by decide), ?_⟩
  refine List.forall_mem_cons.mpr ⟨ok_getf F flX3_31 dX3_copyFrom_91 (by decide), ?_⟩
  refine List.forall_mem_cons.mpr ⟨ok_iconst F dX3_copyFrom_94 (by decide) (by decide), ?_⟩
  refine List.forall_mem_cons.mpr ⟨ok_aload_n F dX3_copyFrom_95 rfl (by decide), ?_⟩
  refine List.forall_mem_cons.mpr ⟨ok_getf F flX3_31 dX3_copyFrom_96 (by decide), ?_⟩
  refine List.forall_mem_cons.mpr ⟨ok_iconst F dX3_copyFrom_99 (by decide) (by decide), ?_⟩
  refine List.forall_mem_cons.mpr ⟨ok_bipush F dX3_copyFrom_100 (by decide) (by decide), ?_⟩
  refine List.forall_mem_cons.mpr ⟨ok_acopy F pW2_sar (by decide +kernel) (by decide) dX3_copyFrom_102 (by decide), ?_⟩
  refine List.forall_mem_cons.mpr ⟨ok_aload_n F dX3_copyFrom_105 rfl (by decide), ?_⟩
  refine List.forall_mem_cons.mpr ⟨ok_getf F flX3_34 dX3_copyFrom_106 (by decide), ?_⟩
  refine List.forall_mem_cons.mpr ⟨ok_iconst F dX3_copyFrom_109 (by decide) (by decide), ?_⟩
  refine List.forall_mem_cons.mpr ⟨ok_aload_n F dX3_copyFrom_110 rfl (by decide), ?_⟩
  refine List.forall_mem_cons.mpr ⟨ok_getf F flX3_34 dX3_copyFrom_111 (by decide), ?_⟩
  refine List.forall_mem_cons.mpr ⟨ok_iconst F dX3_copyFrom_114 (by decide) (by decide), ?_⟩
  refine List.forall_mem_cons.mpr ⟨ok_bipush F dX3_copyFrom_115 (by decide) (by decide), ?_⟩
  refine List.forall_mem_cons.mpr ⟨ok_acopy F pW2_sar (by decide +kernel) (by decide) dX3_copyFrom_117 (by decide), ?_⟩
  refine List.forall_mem_cons.mpr ⟨ok_aload_n F dX3_copyFrom_120 rfl (by decide), ?_⟩
  refine List.forall_mem_cons.mpr ⟨ok_aload_n F dX3_copyFrom_121 rfl (by decide), ?_⟩
  refine List.forall_mem_cons.mpr ⟨ok_getf F flX3_47 dX3_copyFrom_122 (by decide), ?_⟩
  refine List.forall_mem_cons.mpr ⟨ok_puti F pW2_p3_8_ok (fun _ _ _ h => by cases h; rfl) rfl flX3_47 dX3_copyFrom_125 (by decide), ?_⟩
  refine List.forall_mem_cons.mpr ⟨ok_aload_n F dX3_copyFrom_128 rfl (by decide), ?_⟩
  refine List.forall_mem_cons.mpr ⟨ok_aload_n F dX3_copyFrom_129 rfl (by decide), ?_⟩
  refine List.forall_mem_cons.mpr ⟨ok_getf F flX3_37 dX3_copyFrom_130 (by decide), ?_⟩
  refine List.forall_mem_cons.mpr ⟨ok_puti F pW2_p3_9_ok (fun _ _ _ h => by cases h; rfl) rfl flX3_37 dX3_copyFrom_133 (by decide), ?_⟩
  refine List.forall_mem_cons.mpr ⟨ok_vret F G dX3_copyFrom_136 (by decide), ?_⟩
  exact fun _ h => absurd h List.not_mem_nil
set_option maxRecDepth 100000 in
theorem w_X3_copyFrom : (∀ (K : Kt (PT × PT)) (n : Nat) (L : xL) (st : List Value) (S : (PT × PT)), nx cod_X3_copyFrom cut_X3_copyFrom K (n + 1) 0 L st S = (O_aload 1 1) (nx cod_X3_copyFrom cut_X3_copyFrom K n) 0 L st S) ∧
  (∀ (K : Kt (PT × PT)) (n : Nat) (L : xL) (st : List Value) (S : (PT × PT)), nx cod_X3_copyFrom cut_X3_copyFrom K (n + 1) 1 L st S = (O_getf pW2 3 0) (nx cod_X3_copyFrom cut_X3_copyFrom K n) 1 L st S) ∧
  (∀ (K : Kt (PT × PT)) (n : Nat) (L : xL) (st : List Value) (S : (PT × PT)), nx cod_X3_copyFrom cut_X3_copyFrom K (n + 1) 4 L st S = (O_int 0 1) (nx cod_X3_copyFrom cut_X3_copyFrom K n) 4 L st S) ∧
  (∀ (K : Kt (PT × PT)) (n : Nat) (L : xL) (st : List Value) (S : (PT × PT)), nx cod_X3_copyFrom cut_X3_copyFrom K (n + 1) 5 L st S = (O_aload 0 1) (nx cod_X3_copyFrom cut_X3_copyFrom K n) 5 L st S) ∧
  (∀ (K : Kt (PT × PT)) (n : Nat) (L : xL) (st : List Value) (S : (PT × PT)), nx cod_X3_copyFrom cut_X3_copyFrom K (n + 1) 6 L st S = (O_getf pW2 3 0) (nx cod_X3_copyFrom cut_X3_copyFrom K n) 6 L st S) ∧
  (∀ (K : Kt (PT × PT)) (n : Nat) (L : xL) (st : List Value) (S : (PT × PT)), nx cod_X3_copyFrom cut_X3_copyFrom K (n + 1) 9 L st S = (O_int 0 1) (nx cod_X3_copyFrom cut_X3_copyFrom K n) 9 L st S) ∧
  (∀ (K : Kt (PT × PT)) (n : Nat) (L : xL) (st : List Value) (S : (PT × PT)), nx cod_X3_copyFrom cut_X3_copyFrom K (n + 1) 10 L st S = (O_int 6 2) (nx cod_X3_copyFrom cut_X3_copyFrom K n) 10 L st S) ∧
  (∀ (K : Kt (PT × PT)) (n : Nat) (L : xL) (st : List Value) (S : (PT × PT)), nx cod_X3_copyFrom cut_X3_copyFrom K (n + 1) 12 L st S = (O_acopy pW2 pW2_sa) (nx cod_X3_copyFrom cut_X3_copyFrom K n) 12 L st S) ∧
  (∀ (K : Kt (PT × PT)) (n : Nat) (L : xL) (st : List Value) (S : (PT × PT)), nx cod_X3_copyFrom cut_X3_copyFrom K (n + 1) 15 L st S = (O_aload 1 1) (nx cod_X3_copyFrom cut_X3_copyFrom K n) 15 L st S) ∧
  (∀ (K : Kt (PT × PT)) (n : Nat) (L : xL) (st : List Value) (S : (PT × PT)), nx cod_X3_copyFrom cut_X3_copyFrom K (n + 1) 16 L st S = (O_getf pW2 3 1) (nx cod_X3_copyFrom cut_X3_copyFrom K n) 16 L st S) ∧
  (∀ (K : Kt (PT × PT)) (n : Nat) (L : xL) (st : List Value) (S : (PT × PT)), nx cod_X3_copyFrom cut_X3_copyFrom K (n + 1) 19 L st S = (O_int 0 1) (nx cod_X3_copyFrom cut_X3_copyFrom K n) 19 L st S) ∧
  (∀ (K : Kt (PT × PT)) (n : Nat) (L : xL) (st : List Value) (S : (PT × PT)), nx cod_X3_copyFrom cut_X3_copyFrom K (n + 1) 20 L st S = (O_aload 0 1) (nx cod_X3_copyFrom cut_X3_copyFrom K n) 20 L st S) ∧
  (∀ (K : Kt (PT × PT)) (n : Nat) (L : xL) (st : List Value) (S : (PT × PT)), nx cod_X3_copyFrom cut_X3_copyFrom K (n + 1) 21 L st S = (O_getf pW2 3 1) (nx cod_X3_copyFrom cut_X3_copyFrom K n) 21 L st S) ∧
  (∀ (K : Kt (PT × PT)) (n : Nat) (L : xL) (st : List Value) (S : (PT × PT)), nx cod_X3_copyFrom cut_X3_copyFrom K (n + 1) 24 L st S = (O_int 0 1) (nx cod_X3_copyFrom cut_X3_copyFrom K n) 24 L st S) ∧
  (∀ (K : Kt (PT × PT)) (n : Nat) (L : xL) (st : List Value) (S : (PT × PT)), nx cod_X3_copyFrom cut_X3_copyFrom K (n + 1) 25 L st S = (O_int 6 2) (nx cod_X3_copyFrom cut_X3_copyFrom K n) 25 L st S) ∧
  (∀ (K : Kt (PT × PT)) (n : Nat) (L : xL) (st : List Value) (S : (PT × PT)), nx cod_X3_copyFrom cut_X3_copyFrom K (n + 1) 27 L st S = (O_acopy pW2 pW2_sa) (nx cod_X3_copyFrom cut_X3_copyFrom K n) 27 L st S) ∧
  (∀ (K : Kt (PT × PT)) (n : Nat) (L : xL) (st : List Value) (S : (PT × PT)), nx cod_X3_copyFrom cut_X3_copyFrom K (n + 1) 30 L st S = (O_aload 1 1) (nx cod_X3_copyFrom cut_X3_copyFrom K n) 30 L st S) ∧
  (∀ (K : Kt (PT × PT)) (n : Nat) (L : xL) (st : List Value) (S : (PT × PT)), nx cod_X3_copyFrom cut_X3_copyFrom K (n + 1) 31 L st S = (O_getf pW2 3 2) (nx cod_X3_copyFrom cut_X3_copyFrom K n) 31 L st S) ∧
  (∀ (K : Kt (PT × PT)) (n : Nat) (L : xL) (st : List Value) (S : (PT × PT)), nx cod_X3_copyFrom cut_X3_copyFrom K (n + 1) 34 L st S = (O_int 0 1) (nx cod_X3_copyFrom cut_X3_copyFrom K n) 34 L st S) ∧
  (∀ (K : Kt (PT × PT)) (n : Nat) (L : xL) (st : List Value) (S : (PT × PT)), nx cod_X3_copyFrom cut_X3_copyFrom K (n + 1) 35 L st S = (O_aload 0 1) (nx cod_X3_copyFrom cut_X3_copyFrom K n) 35 L st S) ∧
  (∀ (K : Kt (PT × PT)) (n : Nat) (L : xL) (st : List Value) (S : (PT × PT)), nx cod_X3_copyFrom cut_X3_copyFrom K (n + 1) 36 L st S = (O_getf pW2 3 2) (nx cod_X3_copyFrom cut_X3_copyFrom K n) 36 L st S) ∧
  (∀ (K : Kt (PT × PT)) (n : Nat) (L : xL) (st : List Value) (S : (PT × PT)), nx cod_X3_copyFrom cut_X3_copyFrom K (n + 1) 39 L st S = (O_int 0 1) (nx cod_X3_copyFrom cut_X3_copyFrom K n) 39 L st S) ∧
  (∀ (K : Kt (PT × PT)) (n : Nat) (L : xL) (st : List Value) (S : (PT × PT)), nx cod_X3_copyFrom cut_X3_copyFrom K (n + 1) 40 L st S = (O_int 6 2) (nx cod_X3_copyFrom cut_X3_copyFrom K n) 40 L st S) ∧
  (∀ (K : Kt (PT × PT)) (n : Nat) (L : xL) (st : List Value) (S : (PT × PT)), nx cod_X3_copyFrom cut_X3_copyFrom K (n + 1) 42 L st S = (O_acopy pW2 pW2_sa) (nx cod_X3_copyFrom cut_X3_copyFrom K n) 42 L st S) ∧
  (∀ (K : Kt (PT × PT)) (n : Nat) (L : xL) (st : List Value) (S : (PT × PT)), nx cod_X3_copyFrom cut_X3_copyFrom K (n + 1) 45 L st S = (O_aload 1 1) (nx cod_X3_copyFrom cut_X3_copyFrom K n) 45 L st S) ∧
  (∀ (K : Kt (PT × PT)) (n : Nat) (L : xL) (st : List Value) (S : (PT × PT)), nx cod_X3_copyFrom cut_X3_copyFrom K (n + 1) 46 L st S = (O_getf pW2 3 3) (nx cod_X3_copyFrom cut_X3_copyFrom K n) 46 L st S) ∧
  (∀ (K : Kt (PT × PT)) (n : Nat) (L : xL) (st : List Value) (S : (PT × PT)), nx cod_X3_copyFrom cut_X3_copyFrom K (n + 1) 49 L st S = (O_int 0 1) (nx cod_X3_copyFrom cut_X3_copyFrom K n) 49 L st S) ∧
  (∀ (K : Kt (PT × PT)) (n : Nat) (L : xL) (st : List Value) (S : (PT × PT)), nx cod_X3_copyFrom cut_X3_copyFrom K (n + 1) 50 L st S = (O_aload 0 1) (nx cod_X3_copyFrom cut_X3_copyFrom K n) 50 L st S) ∧
  (∀ (K : Kt (PT × PT)) (n : Nat) (L : xL) (st : List Value) (S : (PT × PT)), nx cod_X3_copyFrom cut_X3_copyFrom K (n + 1) 51 L st S = (O_getf pW2 3 3) (nx cod_X3_copyFrom cut_X3_copyFrom K n) 51 L st S) ∧
  (∀ (K : Kt (PT × PT)) (n : Nat) (L : xL) (st : List Value) (S : (PT × PT)), nx cod_X3_copyFrom cut_X3_copyFrom K (n + 1) 54 L st S = (O_int 0 1) (nx cod_X3_copyFrom cut_X3_copyFrom K n) 54 L st S) ∧
  (∀ (K : Kt (PT × PT)) (n : Nat) (L : xL) (st : List Value) (S : (PT × PT)), nx cod_X3_copyFrom cut_X3_copyFrom K (n + 1) 55 L st S = (O_int 6 2) (nx cod_X3_copyFrom cut_X3_copyFrom K n) 55 L st S) ∧
  (∀ (K : Kt (PT × PT)) (n : Nat) (L : xL) (st : List Value) (S : (PT × PT)), nx cod_X3_copyFrom cut_X3_copyFrom K (n + 1) 57 L st S = (O_acopy pW2 pW2_sa) (nx cod_X3_copyFrom cut_X3_copyFrom K n) 57 L st S) ∧
  (∀ (K : Kt (PT × PT)) (n : Nat) (L : xL) (st : List Value) (S : (PT × PT)), nx cod_X3_copyFrom cut_X3_copyFrom K (n + 1) 60 L st S = (O_aload 1 1) (nx cod_X3_copyFrom cut_X3_copyFrom K n) 60 L st S) ∧
  (∀ (K : Kt (PT × PT)) (n : Nat) (L : xL) (st : List Value) (S : (PT × PT)), nx cod_X3_copyFrom cut_X3_copyFrom K (n + 1) 61 L st S = (O_getf pW2 3 4) (nx cod_X3_copyFrom cut_X3_copyFrom K n) 61 L st S) ∧
  (∀ (K : Kt (PT × PT)) (n : Nat) (L : xL) (st : List Value) (S : (PT × PT)), nx cod_X3_copyFrom cut_X3_copyFrom K (n + 1) 64 L st S = (O_int 0 1) (nx cod_X3_copyFrom cut_X3_copyFrom K n) 64 L st S) ∧
  (∀ (K : Kt (PT × PT)) (n : Nat) (L : xL) (st : List Value) (S : (PT × PT)), nx cod_X3_copyFrom cut_X3_copyFrom K (n + 1) 65 L st S = (O_aload 0 1) (nx cod_X3_copyFrom cut_X3_copyFrom K n) 65 L st S) ∧
  (∀ (K : Kt (PT × PT)) (n : Nat) (L : xL) (st : List Value) (S : (PT × PT)), nx cod_X3_copyFrom cut_X3_copyFrom K (n + 1) 66 L st S = (O_getf pW2 3 4) (nx cod_X3_copyFrom cut_X3_copyFrom K n) 66 L st S) ∧
  (∀ (K : Kt (PT × PT)) (n : Nat) (L : xL) (st : List Value) (S : (PT × PT)), nx cod_X3_copyFrom cut_X3_copyFrom K (n + 1) 69 L st S = (O_int 0 1) (nx cod_X3_copyFrom cut_X3_copyFrom K n) 69 L st S) ∧
  (∀ (K : Kt (PT × PT)) (n : Nat) (L : xL) (st : List Value) (S : (PT × PT)), nx cod_X3_copyFrom cut_X3_copyFrom K (n + 1) 70 L st S = (O_int 6 2) (nx cod_X3_copyFrom cut_X3_copyFrom K n) 70 L st S) ∧
  (∀ (K : Kt (PT × PT)) (n : Nat) (L : xL) (st : List Value) (S : (PT × PT)), nx cod_X3_copyFrom cut_X3_copyFrom K (n + 1) 72 L st S = (O_acopy pW2 pW2_sa) (nx cod_X3_copyFrom cut_X3_copyFrom K n) 72 L st S) ∧
  (∀ (K : Kt (PT × PT)) (n : Nat) (L : xL) (st : List Value) (S : (PT × PT)), nx cod_X3_copyFrom cut_X3_copyFrom K (n + 1) 75 L st S = (O_aload 1 1) (nx cod_X3_copyFrom cut_X3_copyFrom K n) 75 L st S) ∧
  (∀ (K : Kt (PT × PT)) (n : Nat) (L : xL) (st : List Value) (S : (PT × PT)), nx cod_X3_copyFrom cut_X3_copyFrom K (n + 1) 76 L st S = (O_getf pW2 3 5) (nx cod_X3_copyFrom cut_X3_copyFrom K n) 76 L st S) ∧
  (∀ (K : Kt (PT × PT)) (n : Nat) (L : xL) (st : List Value) (S : (PT × PT)), nx cod_X3_copyFrom cut_X3_copyFrom K (n + 1) 79 L st S = (O_int 0 1) (nx cod_X3_copyFrom cut_X3_copyFrom K n) 79 L st S) ∧
  (∀ (K : Kt (PT × PT)) (n : Nat) (L : xL) (st : List Value) (S : (PT × PT)), nx cod_X3_copyFrom cut_X3_copyFrom K (n + 1) 80 L st S = (O_aload 0 1) (nx cod_X3_copyFrom cut_X3_copyFrom K n) 80 L st S) ∧
  (∀ (K : Kt (PT × PT)) (n : Nat) (L : xL) (st : List Value) (S : (PT × PT)), nx cod_X3_copyFrom cut_X3_copyFrom K (n + 1) 81 L st S = (O_getf pW2 3 5) (nx cod_X3_copyFrom cut_X3_copyFrom K n) 81 L st S) ∧
  (∀ (K : Kt (PT × PT)) (n : Nat) (L : xL) (st : List Value) (S : (PT × PT)), nx cod_X3_copyFrom cut_X3_copyFrom K (n + 1) 84 L st S = (O_int 0 1) (nx cod_X3_copyFrom cut_X3_copyFrom K n) 84 L st S) ∧
  (∀ (K : Kt (PT × PT)) (n : Nat) (L : xL) (st : List Value) (S : (PT × PT)), nx cod_X3_copyFrom cut_X3_copyFrom K (n + 1) 85 L st S = (O_int 6 2) (nx cod_X3_copyFrom cut_X3_copyFrom K n) 85 L st S) ∧
  (∀ (K : Kt (PT × PT)) (n : Nat) (L : xL) (st : List Value) (S : (PT × PT)), nx cod_X3_copyFrom cut_X3_copyFrom K (n + 1) 87 L st S = (O_acopy pW2 pW2_sa) (nx cod_X3_copyFrom cut_X3_copyFrom K n) 87 L st S) ∧
  (∀ (K : Kt (PT × PT)) (n : Nat) (L : xL) (st : List Value) (S : (PT × PT)), nx cod_X3_copyFrom cut_X3_copyFrom K (n + 1) 90 L st S = (O_aload 1 1) (nx cod_X3_copyFrom cut_X3_copyFrom K n) 90 L st S) ∧
  (∀ (K : Kt (PT × PT)) (n : Nat) (L : xL) (st : List Value) (S : (PT × PT)), nx cod_X3_copyFrom cut_X3_copyFrom K (n + 1) 91 L st S = (O_getf pW2 3 6) (nx cod_X3_copyFrom cut_X3_copyFrom K n) 91 L st S) ∧
  (∀ (K : Kt (PT × PT)) (n : Nat) (L : xL) (st : List Value) (S : (PT × PT)), nx cod_X3_copyFrom cut_X3_copyFrom K (n + 1) 94 L st S = (O_int 0 1) (nx cod_X3_copyFrom cut_X3_copyFrom K n) 94 L st S) ∧
  (∀ (K : Kt (PT × PT)) (n : Nat) (L : xL) (st : List Value) (S : (PT × PT)), nx cod_X3_copyFrom cut_X3_copyFrom K (n + 1) 95 L st S = (O_aload 0 1) (nx cod_X3_copyFrom cut_X3_copyFrom K n) 95 L st S) ∧
  (∀ (K : Kt (PT × PT)) (n : Nat) (L : xL) (st : List Value) (S : (PT × PT)), nx cod_X3_copyFrom cut_X3_copyFrom K (n + 1) 96 L st S = (O_getf pW2 3 6) (nx cod_X3_copyFrom cut_X3_copyFrom K n) 96 L st S) ∧
  (∀ (K : Kt (PT × PT)) (n : Nat) (L : xL) (st : List Value) (S : (PT × PT)), nx cod_X3_copyFrom cut_X3_copyFrom K (n + 1) 99 L st S = (O_int 0 1) (nx cod_X3_copyFrom cut_X3_copyFrom K n) 99 L st S) ∧
  (∀ (K : Kt (PT × PT)) (n : Nat) (L : xL) (st : List Value) (S : (PT × PT)), nx cod_X3_copyFrom cut_X3_copyFrom K (n + 1) 100 L st S = (O_int 6 2) (nx cod_X3_copyFrom cut_X3_copyFrom K n) 100 L st S) ∧
  (∀ (K : Kt (PT × PT)) (n : Nat) (L : xL) (st : List Value) (S : (PT × PT)), nx cod_X3_copyFrom cut_X3_copyFrom K (n + 1) 102 L st S = (O_acopy pW2 pW2_sa) (nx cod_X3_copyFrom cut_X3_copyFrom K n) 102 L st S) ∧
  (∀ (K : Kt (PT × PT)) (n : Nat) (L : xL) (st : List Value) (S : (PT × PT)), nx cod_X3_copyFrom cut_X3_copyFrom K (n + 1) 105 L st S = (O_aload 1 1) (nx cod_X3_copyFrom cut_X3_copyFrom K n) 105 L st S) ∧
  (∀ (K : Kt (PT × PT)) (n : Nat) (L : xL) (st : List Value) (S : (PT × PT)), nx cod_X3_copyFrom cut_X3_copyFrom K (n + 1) 106 L st S = (O_getf pW2 3 7) (nx cod_X3_copyFrom cut_X3_copyFrom K n) 106 L st S) ∧
  (∀ (K : Kt (PT × PT)) (n : Nat) (L : xL) (st : List Value) (S : (PT × PT)), nx cod_X3_copyFrom cut_X3_copyFrom K (n + 1) 109 L st S = (O_int 0 1) (nx cod_X3_copyFrom cut_X3_copyFrom K n) 109 L st S) ∧
  (∀ (K : Kt (PT × PT)) (n : Nat) (L : xL) (st : List Value) (S : (PT × PT)), nx cod_X3_copyFrom cut_X3_copyFrom K (n + 1) 110 L st S = (O_aload 0 1) (nx cod_X3_copyFrom cut_X3_copyFrom K n) 110 L st S) ∧
  (∀ (K : Kt (PT × PT)) (n : Nat) (L : xL) (st : List Value) (S : (PT × PT)), nx cod_X3_copyFrom cut_X3_copyFrom K (n + 1) 111 L st S = (O_getf pW2 3 7) (nx cod_X3_copyFrom cut_X3_copyFrom K n) 111 L st S) ∧
  (∀ (K : Kt (PT × PT)) (n : Nat) (L : xL) (st : List Value) (S : (PT × PT)), nx cod_X3_copyFrom cut_X3_copyFrom K (n + 1) 114 L st S = (O_int 0 1) (nx cod_X3_copyFrom cut_X3_copyFrom K n) 114 L st S) ∧
  (∀ (K : Kt (PT × PT)) (n : Nat) (L : xL) (st : List Value) (S : (PT × PT)), nx cod_X3_copyFrom cut_X3_copyFrom K (n + 1) 115 L st S = (O_int 6 2) (nx cod_X3_copyFrom cut_X3_copyFrom K n) 115 L st S) ∧
  (∀ (K : Kt (PT × PT)) (n : Nat) (L : xL) (st : List Value) (S : (PT × PT)), nx cod_X3_copyFrom cut_X3_copyFrom K (n + 1) 117 L st S = (O_acopy pW2 pW2_sa) (nx cod_X3_copyFrom cut_X3_copyFrom K n) 117 L st S) ∧
  (∀ (K : Kt (PT × PT)) (n : Nat) (L : xL) (st : List Value) (S : (PT × PT)), nx cod_X3_copyFrom cut_X3_copyFrom K (n + 1) 120 L st S = (O_aload 0 1) (nx cod_X3_copyFrom cut_X3_copyFrom K n) 120 L st S) ∧
  (∀ (K : Kt (PT × PT)) (n : Nat) (L : xL) (st : List Value) (S : (PT × PT)), nx cod_X3_copyFrom cut_X3_copyFrom K (n + 1) 121 L st S = (O_aload 1 1) (nx cod_X3_copyFrom cut_X3_copyFrom K n) 121 L st S) ∧
  (∀ (K : Kt (PT × PT)) (n : Nat) (L : xL) (st : List Value) (S : (PT × PT)), nx cod_X3_copyFrom cut_X3_copyFrom K (n + 1) 122 L st S = (O_getf pW2 3 8) (nx cod_X3_copyFrom cut_X3_copyFrom K n) 122 L st S) ∧
  (∀ (K : Kt (PT × PT)) (n : Nat) (L : xL) (st : List Value) (S : (PT × PT)), nx cod_X3_copyFrom cut_X3_copyFrom K (n + 1) 125 L st S = (O_puti pW2_p3_8) (nx cod_X3_copyFrom cut_X3_copyFrom K n) 125 L st S) ∧
  (∀ (K : Kt (PT × PT)) (n : Nat) (L : xL) (st : List Value) (S : (PT × PT)), nx cod_X3_copyFrom cut_X3_copyFrom K (n + 1) 128 L st S = (O_aload 0 1) (nx cod_X3_copyFrom cut_X3_copyFrom K n) 128 L st S) ∧
  (∀ (K : Kt (PT × PT)) (n : Nat) (L : xL) (st : List Value) (S : (PT × PT)), nx cod_X3_copyFrom cut_X3_copyFrom K (n + 1) 129 L st S = (O_aload 1 1) (nx cod_X3_copyFrom cut_X3_copyFrom K n) 129 L st S) ∧
  (∀ (K : Kt (PT × PT)) (n : Nat) (L : xL) (st : List Value) (S : (PT × PT)), nx cod_X3_copyFrom cut_X3_copyFrom K (n + 1) 130 L st S = (O_getf pW2 3 9) (nx cod_X3_copyFrom cut_X3_copyFrom K n) 130 L st S) ∧
  (∀ (K : Kt (PT × PT)) (n : Nat) (L : xL) (st : List Value) (S : (PT × PT)), nx cod_X3_copyFrom cut_X3_copyFrom K (n + 1) 133 L st S = (O_puti pW2_p3_9) (nx cod_X3_copyFrom cut_X3_copyFrom K n) 133 L st S) ∧
  (∀ (K : Kt (PT × PT)) (n : Nat) (L : xL) (st : List Value) (S : (PT × PT)), nx cod_X3_copyFrom cut_X3_copyFrom K (n + 1) 136 L st S = (O_vret) (nx cod_X3_copyFrom cut_X3_copyFrom K n) 136 L st S) ∧
  (∀ (K : Kt (PT × PT)) (n : Nat) (L : xL) (st : List Value) (S : (PT × PT)), nx cod_X3_copyFrom cut_X3_copyFrom K (n + 1) 100000 L st S = K 100000 L st S) := by
  repeat' apply And.intro
  all_goals (intros; rfl)
set_option maxRecDepth 100000 in
theorem mk_X3_copyFrom {P P' : (PT × PT)} {r : Option Value}  (body : ∀ E : En, CodOk E pW2 cod_X3_copyFrom → Gd E pW2 100000 [] r.toList P' → Gd E pW2 0 [some (.ref 0), some (.ref 9)] [] P) : Con yX3_copyFrom cX3_copyFrom 2 none 1 pW2 [.ref 0, .ref 9] P r P' :=
  Con.of (by decide) rfl rfl (Nat.le_of_ble_eq_true rfl) (fun E F G hr => body E (okc_X3_copyFrom F G) hr)
theorem con_X3_copyFrom (S : (PT × PT))  (hp : ∀ i, i < 6 → b01 (S.2.inService i)) : Con yX3_copyFrom cX3_copyFrom 2 none 1 pW2 [.ref 0, .ref 9] S (none) ((S.2, S.2)) := by
  refine mk_X3_copyFrom (fun E C hr => ?_)
  have hb : ∀ i, i < 6 → fits .boolean (.int (S.2.inService i)) = true := fun i hi => (b01_fits (hp i hi)).1
  (refine nx_ok C (cuts := cut_X3_copyFrom) 1000 _ _ _ _ ?_; simp only [w_X3_copyFrom, ops_eq, xst_eq, call_eq, oK_eq, Option.toList_some, Option.toList_none, List.cons_append, List.nil_append, List.length_cons, List.length_nil, true_and, and_true, Nat.reduceAdd, pW2_F, pW2_A, pW2_S, pW2_P, acopy_eq, O_callC_eq, PT_gs, fits_int, cl_eq])
  ((repeat' (with_reducible first | apply And.intro | intro _)) <;> simp_all [hb, PT_gs])
  exact hr
def sp_X3_copyFrom : Sp (PT × PT) := fun av S K => match av with
  | [.ref 0, .ref 9] => (∀ i, i < 6 → b01 (S.2.inService i)) ∧ K (none) ((S.2, S.2))
  | _ => False
theorem se_X3_copyFrom  (S : (PT × PT)) (K : Option Value → (PT × PT) → Prop) : sp_X3_copyFrom [.ref 0, .ref 9] S K = ((∀ i, i < 6 → b01 (S.2.inService i)) ∧ K (none) ((S.2, S.2))) := rfl
theorem spok_X3_copyFrom : SpOk yX3_copyFrom cX3_copyFrom 2 none 1 pW2 sp_X3_copyFrom := by
  intro av S K h
  unfold sp_X3_copyFrom at h
  split at h
  · exact ⟨none, (S.2, S.2), trivial, con_X3_copyFrom S  h.1, h.2⟩
  · exact h.elim
