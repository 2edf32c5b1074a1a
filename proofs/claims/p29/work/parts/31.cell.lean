/-! ===== the law's up and cell ===== -/
def cod_L_up : List (Nat × Op Unit) := [(0, O_iload 0 1), (1, O_int 2147483647 2), (3, O_iand), (4, O_iload 1 1), (5, O_irem), (6, O_iret)]
abbrev cut_L_up : List Nat := []
set_option maxRecDepth 100000 in
theorem okc_L_up {E : En} (F : Fx E RL cL_up 2 0) (G : Fr E (some .int)) : CodOk E toU cod_L_up := by
  unfold CodOk cod_L_up
  refine List.forall_mem_cons.mpr ⟨ok_iload_n F dL_up_0 rfl (by decide), ?_⟩
  refine List.forall_mem_cons.mpr ⟨ok_ldc F (ix := 8) (wsHas_mem (l := [Jvm.Cond.constant RL 8 2147483647]) (by decide +kernel) (by simp)) dL_up_1 (by decide), ?_⟩
  refine List.forall_mem_cons.mpr ⟨ok_iand F dL_up_3 (by decide), ?_⟩
  refine List.forall_mem_cons.mpr ⟨ok_iload_n F dL_up_4 rfl (by decide), ?_⟩
  refine List.forall_mem_cons.mpr ⟨ok_irem F dL_up_5 (by decide), ?_⟩
  refine List.forall_mem_cons.mpr ⟨ok_iret F G dL_up_6 (by decide), ?_⟩
  exact fun _ h => absurd h List.not_mem_nil
set_option maxRecDepth 100000 in
theorem w_L_up : (∀ (K : Kt Unit) (n : Nat) (L : xL) (st : List Value) (S : Unit), nx cod_L_up cut_L_up K (n + 1) 0 L st S = (O_iload 0 1) (nx cod_L_up cut_L_up K n) 0 L st S) ∧
  (∀ (K : Kt Unit) (n : Nat) (L : xL) (st : List Value) (S : Unit), nx cod_L_up cut_L_up K (n + 1) 1 L st S = (O_int 2147483647 2) (nx cod_L_up cut_L_up K n) 1 L st S) ∧
  (∀ (K : Kt Unit) (n : Nat) (L : xL) (st : List Value) (S : Unit), nx cod_L_up cut_L_up K (n + 1) 3 L st S = (O_iand) (nx cod_L_up cut_L_up K n) 3 L st S) ∧
  (∀ (K : Kt Unit) (n : Nat) (L : xL) (st : List Value) (S : Unit), nx cod_L_up cut_L_up K (n + 1) 4 L st S = (O_iload 1 1) (nx cod_L_up cut_L_up K n) 4 L st S) ∧
  (∀ (K : Kt Unit) (n : Nat) (L : xL) (st : List Value) (S : Unit), nx cod_L_up cut_L_up K (n + 1) 5 L st S = (O_irem) (nx cod_L_up cut_L_up K n) 5 L st S) ∧
  (∀ (K : Kt Unit) (n : Nat) (L : xL) (st : List Value) (S : Unit), nx cod_L_up cut_L_up K (n + 1) 6 L st S = (O_iret) (nx cod_L_up cut_L_up K n) 6 L st S) ∧
  (∀ (K : Kt Unit) (n : Nat) (L : xL) (st : List Value) (S : Unit), nx cod_L_up cut_L_up K (n + 1) 100000 L st S = K 100000 L st S) := by
  repeat' apply And.intro
  all_goals (intros; rfl)
set_option maxRecDepth 100000 in
theorem mk_L_up {P P' : Unit} {r : Option Value} {p0 : Int32} {p1 : Int32} (body : ∀ E : En, CodOk E toU cod_L_up → Gd E toU 100000 [] r.toList P' → Gd E toU 0 [some (.int p0), some (.int p1)] [] P) : Con yL_up cL_up 2 (some .int) 0 toU [.int p0, .int p1] P r P' :=
  Con.of (by decide) rfl rfl (Nat.le_of_ble_eq_true rfl) (fun E F G hr => body E (okc_L_up F G) hr)
theorem con_L_up (S : Unit) (v : Int32) (n : Int32) (hp : ¬ n = 0) : Con yL_up cL_up 2 (some .int) 0 toU [.int v, .int n] S (some (.int (up v n))) (S) := by
  refine mk_L_up (fun E C hr => ?_)
  (refine nx_ok C (cuts := cut_L_up) 1000 _ _ _ _ ?_; simp only [w_L_up, ops_eq, xst_eq, call_eq, oK_eq, Option.toList_some, Option.toList_none, List.cons_append, List.nil_append, List.length_cons, List.length_nil, true_and, and_true, Nat.reduceAdd, call_eq, hp])
  ((repeat' (with_reducible first | apply And.intro | intro _)) <;> simp_all [up])
def sp_L_up : Sp Unit := fun av S K => match av with
  | [.int v, .int n] => (¬ n = 0) ∧ K (some (.int (up v n))) (S)
  | _ => False
theorem se_L_up (v : Int32) (n : Int32) (S : Unit) (K : Option Value → Unit → Prop) : sp_L_up [.int v, .int n] S K = ((¬ n = 0) ∧ K (some (.int (up v n))) (S)) := rfl
theorem spok_L_up : SpOk yL_up cL_up 2 (some .int) 0 toU sp_L_up := by
  intro av S K h
  unfold sp_L_up at h
  split at h
  · rename_i v n; exact ⟨some (.int (up v n)), S, trivial, con_L_up S v n h.1, h.2⟩
  · exact h.elim
def cod_L_cell (N : Nat) (xs : Nat → Int32) : List (Nat × Op LT) := [(0, O_iload 1 1), (1, O_aload 0 1), (2, O_sal 1003 N), (3, O_icmp_ge 12), (6, O_aload 0 1), (7, O_iload 1 1), (8, O_gald 1003 N xs), (9, O_goto 20), (12, O_int 1359893119 2), (14, O_iload 1 1), (15, O_int 449 3), (18, O_iadd), (19, O_imul), (20, O_iret)]
abbrev cut_L_cell : List Nat := []
set_option maxRecDepth 100000 in
theorem okc_L_cell {E : En} {N : Nat} {xs : Nat → Int32} (F : Fx E RL cL_cell 2 0) (G : Fr E (some .int)) (Z : LZ N xs E) : CodOk E lW (cod_L_cell N xs) := by
  unfold CodOk cod_L_cell
  refine List.forall_mem_cons.mpr ⟨ok_iload_n F dL_cell_0 rfl (by decide), ?_⟩
  refine List.forall_mem_cons.mpr ⟨ok_aload_n F dL_cell_1 rfl (by decide), ?_⟩
  refine List.forall_mem_cons.mpr ⟨ok_sal F Z.2.2 dL_cell_2 (by show 2 + 1 < 100000; decide), ?_⟩
  refine List.forall_mem_cons.mpr ⟨ok_icmp_ge F dL_cell_3 (by decide) (by decide) (by decide), ?_⟩
  refine List.forall_mem_cons.mpr ⟨ok_aload_n F dL_cell_6 rfl (by decide), ?_⟩
  refine List.forall_mem_cons.mpr ⟨ok_iload_n F dL_cell_7 rfl (by decide), ?_⟩
  refine List.forall_mem_cons.mpr ⟨ok_sald F Z.2.2 dL_cell_8 (by show 8 + 1 < 100000; decide), ?_⟩
  refine List.forall_mem_cons.mpr ⟨ok_goto F dL_cell_9 (by decide) (by decide) (by decide), ?_⟩
  refine List.forall_mem_cons.mpr ⟨ok_ldc F (ix := 7) (wsHas_mem (l := [Jvm.Cond.constant RL 7 1359893119]) (by decide +kernel) (by simp)) dL_cell_12 (by decide), ?_⟩
  refine List.forall_mem_cons.mpr ⟨ok_iload_n F dL_cell_14 rfl (by decide), ?_⟩
  refine List.forall_mem_cons.mpr ⟨ok_sipush F dL_cell_15 (by decide) (by decide), ?_⟩
  refine List.forall_mem_cons.mpr ⟨ok_iadd F dL_cell_18 (by decide), ?_⟩
  refine List.forall_mem_cons.mpr ⟨ok_imul F dL_cell_19 (by decide), ?_⟩
  refine List.forall_mem_cons.mpr ⟨ok_iret F G dL_cell_20 (by decide), ?_⟩
  exact fun _ h => absurd h List.not_mem_nil
set_option maxRecDepth 100000 in
theorem w_L_cell (N : Nat) (xs : Nat → Int32) : (∀ (K : Kt LT) (k : Nat) (L : xL) (st : List Value) (S : LT), nx (cod_L_cell N xs) cut_L_cell K (k + 1) 0 L st S = (O_iload 1 1) (nx (cod_L_cell N xs) cut_L_cell K k) 0 L st S) ∧
  (∀ (K : Kt LT) (k : Nat) (L : xL) (st : List Value) (S : LT), nx (cod_L_cell N xs) cut_L_cell K (k + 1) 1 L st S = (O_aload 0 1) (nx (cod_L_cell N xs) cut_L_cell K k) 1 L st S) ∧
  (∀ (K : Kt LT) (k : Nat) (L : xL) (st : List Value) (S : LT), nx (cod_L_cell N xs) cut_L_cell K (k + 1) 2 L st S = (O_sal 1003 N) (nx (cod_L_cell N xs) cut_L_cell K k) 2 L st S) ∧
  (∀ (K : Kt LT) (k : Nat) (L : xL) (st : List Value) (S : LT), nx (cod_L_cell N xs) cut_L_cell K (k + 1) 3 L st S = (O_icmp_ge 12) (nx (cod_L_cell N xs) cut_L_cell K k) 3 L st S) ∧
  (∀ (K : Kt LT) (k : Nat) (L : xL) (st : List Value) (S : LT), nx (cod_L_cell N xs) cut_L_cell K (k + 1) 6 L st S = (O_aload 0 1) (nx (cod_L_cell N xs) cut_L_cell K k) 6 L st S) ∧
  (∀ (K : Kt LT) (k : Nat) (L : xL) (st : List Value) (S : LT), nx (cod_L_cell N xs) cut_L_cell K (k + 1) 7 L st S = (O_iload 1 1) (nx (cod_L_cell N xs) cut_L_cell K k) 7 L st S) ∧
  (∀ (K : Kt LT) (k : Nat) (L : xL) (st : List Value) (S : LT), nx (cod_L_cell N xs) cut_L_cell K (k + 1) 8 L st S = (O_gald 1003 N xs) (nx (cod_L_cell N xs) cut_L_cell K k) 8 L st S) ∧
  (∀ (K : Kt LT) (k : Nat) (L : xL) (st : List Value) (S : LT), nx (cod_L_cell N xs) cut_L_cell K (k + 1) 9 L st S = (O_goto 20) (nx (cod_L_cell N xs) cut_L_cell K k) 9 L st S) ∧
  (∀ (K : Kt LT) (k : Nat) (L : xL) (st : List Value) (S : LT), nx (cod_L_cell N xs) cut_L_cell K (k + 1) 12 L st S = (O_int 1359893119 2) (nx (cod_L_cell N xs) cut_L_cell K k) 12 L st S) ∧
  (∀ (K : Kt LT) (k : Nat) (L : xL) (st : List Value) (S : LT), nx (cod_L_cell N xs) cut_L_cell K (k + 1) 14 L st S = (O_iload 1 1) (nx (cod_L_cell N xs) cut_L_cell K k) 14 L st S) ∧
  (∀ (K : Kt LT) (k : Nat) (L : xL) (st : List Value) (S : LT), nx (cod_L_cell N xs) cut_L_cell K (k + 1) 15 L st S = (O_int 449 3) (nx (cod_L_cell N xs) cut_L_cell K k) 15 L st S) ∧
  (∀ (K : Kt LT) (k : Nat) (L : xL) (st : List Value) (S : LT), nx (cod_L_cell N xs) cut_L_cell K (k + 1) 18 L st S = (O_iadd) (nx (cod_L_cell N xs) cut_L_cell K k) 18 L st S) ∧
  (∀ (K : Kt LT) (k : Nat) (L : xL) (st : List Value) (S : LT), nx (cod_L_cell N xs) cut_L_cell K (k + 1) 19 L st S = (O_imul) (nx (cod_L_cell N xs) cut_L_cell K k) 19 L st S) ∧
  (∀ (K : Kt LT) (k : Nat) (L : xL) (st : List Value) (S : LT), nx (cod_L_cell N xs) cut_L_cell K (k + 1) 20 L st S = (O_iret) (nx (cod_L_cell N xs) cut_L_cell K k) 20 L st S) ∧
  (∀ (K : Kt LT) (k : Nat) (L : xL) (st : List Value) (S : LT), nx (cod_L_cell N xs) cut_L_cell K (k + 1) 100000 L st S = K 100000 L st S) := by
  repeat' apply And.intro
  all_goals (intros; rfl)
set_option maxRecDepth 100000 in
theorem mk_L_cell {N : Nat} {xs : Nat → Int32} {P P' : LT} {r : Option Value} {p1 : Int32} (body : ∀ E : En, CodOk E lW (cod_L_cell N xs) → Gd E lW 100000 [] r.toList P' → Gd E lW 0 [some (.ref 1003), some (.int p1)] [] P) : ConT N xs yL_cell cL_cell 2 (some .int) 0 lW [.ref 1003, .int p1] P r P' :=
  ConT.of (by decide) ((lW_len P').trans (lW_len P).symm) rfl (Nat.le_of_ble_eq_true rfl) (fun E F G Z hr => body E (okc_L_cell F G Z) hr)
/-- what the law reads of the script at k -/
def cv (N : Nat) (xs : Nat → Int32) (k : Nat) : Int32 := if k < N then xs k else 1359893119 * (nI k + 449)
theorem con_L_cell {N : Nat} {xs : Nat → Int32} (hN : N ≤ 260) {k : Nat} (hk : k < 1000) (S : LT) : ConT N xs yL_cell cL_cell 2 (some .int) 0 lW [.ref 1003, .int (nI k)] S (some (.int (cv N xs k))) S := by
  refine mk_L_cell (fun E C hr => ?_)
  have hc : nI k < nI N ↔ k < N := nI_ltI (by omega) (by omega)
  simp only [Option.toList_some] at hr
  by_cases c : k < N
  · have hx := hc.mpr c
    have hv : vp_in (nI k) N := vp_in_nI c (by omega)
    have hl : (nI k).toNatClampNeg = k := nI_clamp (by omega)
    have e : cv N xs k = xs k := by
      unfold cv
      rw [if_pos c]
    rw [e] at hr
    (refine nx_ok C (cuts := cut_L_cell) 1000 _ _ _ _ ?_; simp only [w_L_cell, ops_eq, xst_eq, call_eq, oK_eq, Option.toList_some, Option.toList_none, List.cons_append, List.nil_append, List.length_cons, List.length_nil, true_and, and_true, Nat.reduceAdd, O_g_eq, O_s_eq, O_t_eq, O_z2, spG_eq, se_L_up, l_eq, z_eq, false_implies, true_implies, implies_true, not_true_eq_false, not_false_eq_true, Nat.reduceLeDiff, Nat.zero_le, hx, hv, hl])
    exact hr
  · have hx : ¬ nI k < nI N := fun z => c (hc.mp z)
    have e : cv N xs k = 1359893119 * (nI k + 449) := by
      unfold cv
      rw [if_neg c]
    rw [e] at hr
    (refine nx_ok C (cuts := cut_L_cell) 1000 _ _ _ _ ?_; simp only [w_L_cell, ops_eq, xst_eq, call_eq, oK_eq, Option.toList_some, Option.toList_none, List.cons_append, List.nil_append, List.length_cons, List.length_nil, true_and, and_true, Nat.reduceAdd, O_g_eq, O_s_eq, O_t_eq, O_z2, spG_eq, se_L_up, l_eq, z_eq, false_implies, true_implies, implies_true, not_true_eq_false, not_false_eq_true, Nat.reduceLeDiff, Nat.zero_le, hx])
    exact hr
