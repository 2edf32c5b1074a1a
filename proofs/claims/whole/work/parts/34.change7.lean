/-! ===== the reference: the calls that change ===== -/
def cod_X7_leak : List (Nat × Op QT) := [(0, O_iload 1 1), (1, O_i2l), (2, O_long 0 1), (3, O_long 1000 3), (6, O_callS 3 sp_X7_in), (9, O_if_ne 15), (12, O_int (-1000001) 2), (14, O_iret), (15, O_aload 0 1), (16, O_callV 0 0 (fun S => S) (fun _ S' => S') spa_X7_save), (19, O_aload 0 1), (20, O_getf aW 7 0), (23, O_int 17 2), (25, O_ald aW 0), (26, O_istore 2 1), (27, O_aload 0 1), (28, O_getf aW 7 0), (31, O_int 17 2), (33, O_iload 1 1), (34, O_asti aW aW_wi), (35, O_iload 2 1), (36, O_iret)]
abbrev cut_X7_leak : List Nat := []
set_option maxRecDepth 100000 in
theorem okc_X7_leak {E : En} (F : Fx E RX7 cX7_leak 3 1) (G : Fr E (some .int)) : CodOk E aW cod_X7_leak := by
  unfold CodOk cod_X7_leak
  refine List.forall_mem_cons.mpr ⟨ok_iload_n F dX7_leak_0 rfl (by decide), ?_⟩
  refine List.forall_mem_cons.mpr ⟨ok_i2l F dX7_leak_1 (by decide), ?_⟩
  refine List.forall_mem_cons.mpr ⟨ok_lconst F dX7_leak_2 (by decide) (by decide), ?_⟩
  refine List.forall_mem_cons.mpr ⟨ok_ldc2 F (ix := 40) (wsHas_mem (l := [Jvm.Cond.constantLong RX7 40 1000]) (by decide +kernel) (by simp)) dX7_leak_3 (by decide), ?_⟩
  refine List.forall_mem_cons.mpr ⟨ok_callS F spok_X7_in (by decide +kernel) rfl (by decide) dX7_leak_6 (by decide), ?_⟩
  refine List.forall_mem_cons.mpr ⟨ok_if_ne F dX7_leak_9 (by decide) (by decide) (by decide), ?_⟩
  refine List.forall_mem_cons.mpr ⟨ok_ldc F (ix := 62) (wsHas_mem (l := [Jvm.Cond.constant RX7 62 (-1000001)]) (by decide +kernel) (by simp)) dX7_leak_12 (by decide), ?_⟩
  refine List.forall_mem_cons.mpr ⟨ok_iret F G dX7_leak_14 (by decide), ?_⟩
  refine List.forall_mem_cons.mpr ⟨ok_aload_n F dX7_leak_15 rfl (by decide), ?_⟩
  refine List.forall_mem_cons.mpr ⟨ok_callV F spoka_X7_save (ln_id aW) rcv_aW (by decide +kernel) (by decide) dX7_leak_16 (by decide), ?_⟩
  refine List.forall_mem_cons.mpr ⟨ok_aload_n F dX7_leak_19 rfl (by decide), ?_⟩
  refine List.forall_mem_cons.mpr ⟨ok_getf F flX7_7 dX7_leak_20 (by decide), ?_⟩
  refine List.forall_mem_cons.mpr ⟨ok_bipush F dX7_leak_23 (by decide) (by decide), ?_⟩
  refine List.forall_mem_cons.mpr ⟨ok_iald F dX7_leak_25 (by decide), ?_⟩
  refine List.forall_mem_cons.mpr ⟨ok_istore_n F dX7_leak_26 rfl (by decide) (by decide), ?_⟩
  refine List.forall_mem_cons.mpr ⟨ok_aload_n F dX7_leak_27 rfl (by decide), ?_⟩
  refine List.forall_mem_cons.mpr ⟨ok_getf F flX7_7 dX7_leak_28 (by decide), ?_⟩
  refine List.forall_mem_cons.mpr ⟨ok_bipush F dX7_leak_31 (by decide) (by decide), ?_⟩
  refine List.forall_mem_cons.mpr ⟨ok_iload_n F dX7_leak_33 rfl (by decide), ?_⟩
  refine List.forall_mem_cons.mpr ⟨ok_asti F aW_wok dX7_leak_34 (by decide), ?_⟩
  refine List.forall_mem_cons.mpr ⟨ok_iload_n F dX7_leak_35 rfl (by decide), ?_⟩
  refine List.forall_mem_cons.mpr ⟨ok_iret F G dX7_leak_36 (by decide), ?_⟩
  exact fun _ h => absurd h List.not_mem_nil
set_option maxRecDepth 100000 in
theorem w_X7_leak : (∀ (K : Kt QT) (n : Nat) (L : xL) (st : List Value) (S : QT), nx cod_X7_leak cut_X7_leak K (n + 1) 0 L st S = (O_iload 1 1) (nx cod_X7_leak cut_X7_leak K n) 0 L st S) ∧
  (∀ (K : Kt QT) (n : Nat) (L : xL) (st : List Value) (S : QT), nx cod_X7_leak cut_X7_leak K (n + 1) 1 L st S = (O_i2l) (nx cod_X7_leak cut_X7_leak K n) 1 L st S) ∧
  (∀ (K : Kt QT) (n : Nat) (L : xL) (st : List Value) (S : QT), nx cod_X7_leak cut_X7_leak K (n + 1) 2 L st S = (O_long 0 1) (nx cod_X7_leak cut_X7_leak K n) 2 L st S) ∧
  (∀ (K : Kt QT) (n : Nat) (L : xL) (st : List Value) (S : QT), nx cod_X7_leak cut_X7_leak K (n + 1) 3 L st S = (O_long 1000 3) (nx cod_X7_leak cut_X7_leak K n) 3 L st S) ∧
  (∀ (K : Kt QT) (n : Nat) (L : xL) (st : List Value) (S : QT), nx cod_X7_leak cut_X7_leak K (n + 1) 6 L st S = (O_callS 3 sp_X7_in) (nx cod_X7_leak cut_X7_leak K n) 6 L st S) ∧
  (∀ (K : Kt QT) (n : Nat) (L : xL) (st : List Value) (S : QT), nx cod_X7_leak cut_X7_leak K (n + 1) 9 L st S = (O_if_ne 15) (nx cod_X7_leak cut_X7_leak K n) 9 L st S) ∧
  (∀ (K : Kt QT) (n : Nat) (L : xL) (st : List Value) (S : QT), nx cod_X7_leak cut_X7_leak K (n + 1) 12 L st S = (O_int (-1000001) 2) (nx cod_X7_leak cut_X7_leak K n) 12 L st S) ∧
  (∀ (K : Kt QT) (n : Nat) (L : xL) (st : List Value) (S : QT), nx cod_X7_leak cut_X7_leak K (n + 1) 14 L st S = (O_iret) (nx cod_X7_leak cut_X7_leak K n) 14 L st S) ∧
  (∀ (K : Kt QT) (n : Nat) (L : xL) (st : List Value) (S : QT), nx cod_X7_leak cut_X7_leak K (n + 1) 15 L st S = (O_aload 0 1) (nx cod_X7_leak cut_X7_leak K n) 15 L st S) ∧
  (∀ (K : Kt QT) (n : Nat) (L : xL) (st : List Value) (S : QT), nx cod_X7_leak cut_X7_leak K (n + 1) 16 L st S = (O_callV 0 0 (fun S => S) (fun _ S' => S') spa_X7_save) (nx cod_X7_leak cut_X7_leak K n) 16 L st S) ∧
  (∀ (K : Kt QT) (n : Nat) (L : xL) (st : List Value) (S : QT), nx cod_X7_leak cut_X7_leak K (n + 1) 19 L st S = (O_aload 0 1) (nx cod_X7_leak cut_X7_leak K n) 19 L st S) ∧
  (∀ (K : Kt QT) (n : Nat) (L : xL) (st : List Value) (S : QT), nx cod_X7_leak cut_X7_leak K (n + 1) 20 L st S = (O_getf aW 7 0) (nx cod_X7_leak cut_X7_leak K n) 20 L st S) ∧
  (∀ (K : Kt QT) (n : Nat) (L : xL) (st : List Value) (S : QT), nx cod_X7_leak cut_X7_leak K (n + 1) 23 L st S = (O_int 17 2) (nx cod_X7_leak cut_X7_leak K n) 23 L st S) ∧
  (∀ (K : Kt QT) (n : Nat) (L : xL) (st : List Value) (S : QT), nx cod_X7_leak cut_X7_leak K (n + 1) 25 L st S = (O_ald aW 0) (nx cod_X7_leak cut_X7_leak K n) 25 L st S) ∧
  (∀ (K : Kt QT) (n : Nat) (L : xL) (st : List Value) (S : QT), nx cod_X7_leak cut_X7_leak K (n + 1) 26 L st S = (O_istore 2 1) (nx cod_X7_leak cut_X7_leak K n) 26 L st S) ∧
  (∀ (K : Kt QT) (n : Nat) (L : xL) (st : List Value) (S : QT), nx cod_X7_leak cut_X7_leak K (n + 1) 27 L st S = (O_aload 0 1) (nx cod_X7_leak cut_X7_leak K n) 27 L st S) ∧
  (∀ (K : Kt QT) (n : Nat) (L : xL) (st : List Value) (S : QT), nx cod_X7_leak cut_X7_leak K (n + 1) 28 L st S = (O_getf aW 7 0) (nx cod_X7_leak cut_X7_leak K n) 28 L st S) ∧
  (∀ (K : Kt QT) (n : Nat) (L : xL) (st : List Value) (S : QT), nx cod_X7_leak cut_X7_leak K (n + 1) 31 L st S = (O_int 17 2) (nx cod_X7_leak cut_X7_leak K n) 31 L st S) ∧
  (∀ (K : Kt QT) (n : Nat) (L : xL) (st : List Value) (S : QT), nx cod_X7_leak cut_X7_leak K (n + 1) 33 L st S = (O_iload 1 1) (nx cod_X7_leak cut_X7_leak K n) 33 L st S) ∧
  (∀ (K : Kt QT) (n : Nat) (L : xL) (st : List Value) (S : QT), nx cod_X7_leak cut_X7_leak K (n + 1) 34 L st S = (O_asti aW aW_wi) (nx cod_X7_leak cut_X7_leak K n) 34 L st S) ∧
  (∀ (K : Kt QT) (n : Nat) (L : xL) (st : List Value) (S : QT), nx cod_X7_leak cut_X7_leak K (n + 1) 35 L st S = (O_iload 2 1) (nx cod_X7_leak cut_X7_leak K n) 35 L st S) ∧
  (∀ (K : Kt QT) (n : Nat) (L : xL) (st : List Value) (S : QT), nx cod_X7_leak cut_X7_leak K (n + 1) 36 L st S = (O_iret) (nx cod_X7_leak cut_X7_leak K n) 36 L st S) ∧
  (∀ (K : Kt QT) (n : Nat) (L : xL) (st : List Value) (S : QT), nx cod_X7_leak cut_X7_leak K (n + 1) 100000 L st S = K 100000 L st S) := by
  repeat' apply And.intro
  all_goals (intros; rfl)
set_option maxRecDepth 100000 in
theorem mk_X7_leak {P P' : QT} {r : Option Value} {p0 : Int32} (body : ∀ E : En, CodOk E aW cod_X7_leak → Gd E aW 100000 [] r.toList P' → Gd E aW 0 [some (.ref 0), some (.int p0), none] [] P) : Con yX7_leak cX7_leak 3 (some .int) 1 aW [.ref 0, .int p0] P r P' :=
  Con.of (by decide) ((aW_len P').trans (aW_len P).symm) rfl (Nat.le_of_ble_eq_true rfl) (fun E F G hr => body E (okc_X7_leak F G) hr)
set_option maxRecDepth 10000 in
theorem con_X7_leak (S : ST) (M : MT) (fl : Bool) (v : Int32) (hp : isN M.savedMany M.k 4) : Con yX7_leak cX7_leak 3 (some .int) 1 aW [.ref 0, .int v] (S, M, fl) (some (.int (if inR v 0 1000 = false then -1000001 else S.leak))) ((if inR v 0 1000 = true then (S.sLeak v, M.saveA S, fl) else (S, M, fl))) := by
  refine mk_X7_leak (fun E C hr => ?_)
  by_cases c : inR v 0 1000 = true
  · rw [if_neg (by rw [c]; decide), if_pos c] at hr
    (refine nx_ok C (cuts := cut_X7_leak) 1000 _ _ _ _ ?_; simp only [w_X7_leak, ops_eq, xst_eq, call_eq, oK_eq, Option.toList_some, Option.toList_none, List.cons_append, List.nil_append, List.length_cons, List.length_nil, true_and, and_true, Nat.reduceAdd, aW_F, aW_A, aW_P, aW_w, abs_eq, O_asti_eq, v170, cl_eq, ST_id, MT_gs, ST_gs, PT_gs, ZT_gs, NT_gs, ET_gs, se_X7_in, sea_X7_save, bI_eq, inL_lit, c, hp])
    ((repeat' (with_reducible first | apply And.intro | intro _)) <;> first | (with_reducible assumption) | (with_reducible exact Nat.zero_le _) | contradiction | (simp only [Option.toList_none, Option.toList_some] at hr; with_reducible assumption) | (simp_all; done) | assumption)
  · rw [if_neg c] at hr
    have c := bnot c
    rw [if_pos c] at hr
    (refine nx_ok C (cuts := cut_X7_leak) 1000 _ _ _ _ ?_; simp only [w_X7_leak, ops_eq, xst_eq, call_eq, oK_eq, Option.toList_some, Option.toList_none, List.cons_append, List.nil_append, List.length_cons, List.length_nil, true_and, and_true, Nat.reduceAdd, aW_F, aW_A, aW_P, aW_w, abs_eq, O_asti_eq, v170, cl_eq, ST_id, MT_gs, ST_gs, PT_gs, ZT_gs, NT_gs, ET_gs, se_X7_in, sea_X7_save, bI_eq, inL_lit, c])
    ((repeat' (with_reducible first | apply And.intro | intro _)) <;> first | (with_reducible assumption) | (with_reducible exact Nat.zero_le _) | contradiction | (simp only [Option.toList_none, Option.toList_some] at hr; with_reducible assumption) | (simp_all; done) | assumption)
def spc_X7_leak (S : ST) (M : MT) (fl : Bool) (v : Int32) (K : Option Value → QT → Prop) : Prop := (isN M.savedMany M.k 4) ∧ K (some (.int (if inR v 0 1000 = false then -1000001 else S.leak))) ((if inR v 0 1000 = true then (S.sLeak v, M.saveA S, fl) else (S, M, fl)))
def sp_X7_leak : Sp QT := fun av q K => match av with
  | [.ref 0, .int v] => spc_X7_leak q.1 q.2.1 q.2.2 v K
  | _ => False
theorem se_X7_leak (S : ST) (M : MT) (fl : Bool) (v : Int32) (K : Option Value → QT → Prop) : sp_X7_leak [.ref 0, .int v] (S, M, fl) K = ((isN M.savedMany M.k 4) ∧ K (some (.int (if inR v 0 1000 = false then -1000001 else S.leak))) ((if inR v 0 1000 = true then (S.sLeak v, M.saveA S, fl) else (S, M, fl)))) := rfl
theorem spok_X7_leak : SpOk yX7_leak cX7_leak 3 (some .int) 1 aW sp_X7_leak := by
  intro av q K h
  unfold sp_X7_leak at h
  split at h
  · rename_i v; refine ⟨_, _, ?_, con_X7_leak q.1 q.2.1 q.2.2 v h.1, h.2⟩; trivial
  · exact h.elim
def cod_X7_fill : List (Nat × Op QT) := [(0, O_iload 1 1), (1, O_i2l), (2, O_long 0 1), (3, O_long 20000 3), (6, O_callS 3 sp_X7_in), (9, O_if_ne 15), (12, O_int (-1000001) 2), (14, O_iret), (15, O_aload 0 1), (16, O_callV 0 0 (fun S => S) (fun _ S' => S') spa_X7_save), (19, O_aload 0 1), (20, O_getf aW 7 0), (23, O_int 2 1), (24, O_ald aW 0), (25, O_istore 2 1), (26, O_aload 0 1), (27, O_getf aW 7 0), (30, O_int 2 1), (31, O_iload 1 1), (32, O_asti aW aW_wi), (33, O_iload 2 1), (34, O_iret)]
abbrev cut_X7_fill : List Nat := []
set_option maxRecDepth 100000 in
theorem okc_X7_fill {E : En} (F : Fx E RX7 cX7_fill 3 1) (G : Fr E (some .int)) : CodOk E aW cod_X7_fill := by
  unfold CodOk cod_X7_fill
  refine List.forall_mem_cons.mpr ⟨ok_iload_n F dX7_fill_0 rfl (by decide), ?_⟩
  refine List.forall_mem_cons.mpr ⟨ok_i2l F dX7_fill_1 (by decide), ?_⟩
  refine List.forall_mem_cons.mpr ⟨ok_lconst F dX7_fill_2 (by decide) (by decide), ?_⟩
  refine List.forall_mem_cons.mpr ⟨ok_ldc2 F (ix := 151) (wsHas_mem (l := [Jvm.Cond.constantLong RX7 151 20000]) (by decide +kernel) (by simp)) dX7_fill_3 (by decide), ?_⟩
  refine List.forall_mem_cons.mpr ⟨ok_callS F spok_X7_in (by decide +kernel) rfl (by decide) dX7_fill_6 (by decide), ?_⟩
  refine List.forall_mem_cons.mpr ⟨ok_if_ne F dX7_fill_9 (by decide) (by decide) (by decide), ?_⟩
  refine List.forall_mem_cons.mpr ⟨ok_ldc F (ix := 62) (wsHas_mem (l := [Jvm.Cond.constant RX7 62 (-1000001)]) (by decide +kernel) (by simp)) dX7_fill_12 (by decide), ?_⟩
  refine List.forall_mem_cons.mpr ⟨ok_iret F G dX7_fill_14 (by decide), ?_⟩
  refine List.forall_mem_cons.mpr ⟨ok_aload_n F dX7_fill_15 rfl (by decide), ?_⟩
  refine List.forall_mem_cons.mpr ⟨ok_callV F spoka_X7_save (ln_id aW) rcv_aW (by decide +kernel) (by decide) dX7_fill_16 (by decide), ?_⟩
  refine List.forall_mem_cons.mpr ⟨ok_aload_n F dX7_fill_19 rfl (by decide), ?_⟩
  refine List.forall_mem_cons.mpr ⟨ok_getf F flX7_7 dX7_fill_20 (by decide), ?_⟩
  refine List.forall_mem_cons.mpr ⟨ok_iconst F dX7_fill_23 (by decide) (by decide), ?_⟩
  refine List.forall_mem_cons.mpr ⟨ok_iald F dX7_fill_24 (by decide), ?_⟩
  refine List.forall_mem_cons.mpr ⟨ok_istore_n F dX7_fill_25 rfl (by decide) (by decide), ?_⟩
  refine List.forall_mem_cons.mpr ⟨ok_aload_n F dX7_fill_26 rfl (by decide), ?_⟩
  refine List.forall_mem_cons.mpr ⟨ok_getf F flX7_7 dX7_fill_27 (by decide), ?_⟩
  refine List.forall_mem_cons.mpr ⟨ok_iconst F dX7_fill_30 (by decide) (by decide), ?_⟩
  refine List.forall_mem_cons.mpr ⟨ok_iload_n F dX7_fill_31 rfl (by decide), ?_⟩
  refine List.forall_mem_cons.mpr ⟨ok_asti F aW_wok dX7_fill_32 (by decide), ?_⟩
  refine List.forall_mem_cons.mpr ⟨ok_iload_n F dX7_fill_33 rfl (by decide), ?_⟩
  refine List.forall_mem_cons.mpr ⟨ok_iret F G dX7_fill_34 (by decide), ?_⟩
  exact fun _ h => absurd h List.not_mem_nil
set_option maxRecDepth 100000 in
theorem w_X7_fill : (∀ (K : Kt QT) (n : Nat) (L : xL) (st : List Value) (S : QT), nx cod_X7_fill cut_X7_fill K (n + 1) 0 L st S = (O_iload 1 1) (nx cod_X7_fill cut_X7_fill K n) 0 L st S) ∧
  (∀ (K : Kt QT) (n : Nat) (L : xL) (st : List Value) (S : QT), nx cod_X7_fill cut_X7_fill K (n + 1) 1 L st S = (O_i2l) (nx cod_X7_fill cut_X7_fill K n) 1 L st S) ∧
  (∀ (K : Kt QT) (n : Nat) (L : xL) (st : List Value) (S : QT), nx cod_X7_fill cut_X7_fill K (n + 1) 2 L st S = (O_long 0 1) (nx cod_X7_fill cut_X7_fill K n) 2 L st S) ∧
  (∀ (K : Kt QT) (n : Nat) (L : xL) (st : List Value) (S : QT), nx cod_X7_fill cut_X7_fill K (n + 1) 3 L st S = (O_long 20000 3) (nx cod_X7_fill cut_X7_fill K n) 3 L st S) ∧
  (∀ (K : Kt QT) (n : Nat) (L : xL) (st : List Value) (S : QT), nx cod_X7_fill cut_X7_fill K (n + 1) 6 L st S = (O_callS 3 sp_X7_in) (nx cod_X7_fill cut_X7_fill K n) 6 L st S) ∧
  (∀ (K : Kt QT) (n : Nat) (L : xL) (st : List Value) (S : QT), nx cod_X7_fill cut_X7_fill K (n + 1) 9 L st S = (O_if_ne 15) (nx cod_X7_fill cut_X7_fill K n) 9 L st S) ∧
  (∀ (K : Kt QT) (n : Nat) (L : xL) (st : List Value) (S : QT), nx cod_X7_fill cut_X7_fill K (n + 1) 12 L st S = (O_int (-1000001) 2) (nx cod_X7_fill cut_X7_fill K n) 12 L st S) ∧
  (∀ (K : Kt QT) (n : Nat) (L : xL) (st : List Value) (S : QT), nx cod_X7_fill cut_X7_fill K (n + 1) 14 L st S = (O_iret) (nx cod_X7_fill cut_X7_fill K n) 14 L st S) ∧
  (∀ (K : Kt QT) (n : Nat) (L : xL) (st : List Value) (S : QT), nx cod_X7_fill cut_X7_fill K (n + 1) 15 L st S = (O_aload 0 1) (nx cod_X7_fill cut_X7_fill K n) 15 L st S) ∧
  (∀ (K : Kt QT) (n : Nat) (L : xL) (st : List Value) (S : QT), nx cod_X7_fill cut_X7_fill K (n + 1) 16 L st S = (O_callV 0 0 (fun S => S) (fun _ S' => S') spa_X7_save) (nx cod_X7_fill cut_X7_fill K n) 16 L st S) ∧
  (∀ (K : Kt QT) (n : Nat) (L : xL) (st : List Value) (S : QT), nx cod_X7_fill cut_X7_fill K (n + 1) 19 L st S = (O_aload 0 1) (nx cod_X7_fill cut_X7_fill K n) 19 L st S) ∧
  (∀ (K : Kt QT) (n : Nat) (L : xL) (st : List Value) (S : QT), nx cod_X7_fill cut_X7_fill K (n + 1) 20 L st S = (O_getf aW 7 0) (nx cod_X7_fill cut_X7_fill K n) 20 L st S) ∧
  (∀ (K : Kt QT) (n : Nat) (L : xL) (st : List Value) (S : QT), nx cod_X7_fill cut_X7_fill K (n + 1) 23 L st S = (O_int 2 1) (nx cod_X7_fill cut_X7_fill K n) 23 L st S) ∧
  (∀ (K : Kt QT) (n : Nat) (L : xL) (st : List Value) (S : QT), nx cod_X7_fill cut_X7_fill K (n + 1) 24 L st S = (O_ald aW 0) (nx cod_X7_fill cut_X7_fill K n) 24 L st S) ∧
  (∀ (K : Kt QT) (n : Nat) (L : xL) (st : List Value) (S : QT), nx cod_X7_fill cut_X7_fill K (n + 1) 25 L st S = (O_istore 2 1) (nx cod_X7_fill cut_X7_fill K n) 25 L st S) ∧
  (∀ (K : Kt QT) (n : Nat) (L : xL) (st : List Value) (S : QT), nx cod_X7_fill cut_X7_fill K (n + 1) 26 L st S = (O_aload 0 1) (nx cod_X7_fill cut_X7_fill K n) 26 L st S) ∧
  (∀ (K : Kt QT) (n : Nat) (L : xL) (st : List Value) (S : QT), nx cod_X7_fill cut_X7_fill K (n + 1) 27 L st S = (O_getf aW 7 0) (nx cod_X7_fill cut_X7_fill K n) 27 L st S) ∧
  (∀ (K : Kt QT) (n : Nat) (L : xL) (st : List Value) (S : QT), nx cod_X7_fill cut_X7_fill K (n + 1) 30 L st S = (O_int 2 1) (nx cod_X7_fill cut_X7_fill K n) 30 L st S) ∧
  (∀ (K : Kt QT) (n : Nat) (L : xL) (st : List Value) (S : QT), nx cod_X7_fill cut_X7_fill K (n + 1) 31 L st S = (O_iload 1 1) (nx cod_X7_fill cut_X7_fill K n) 31 L st S) ∧
  (∀ (K : Kt QT) (n : Nat) (L : xL) (st : List Value) (S : QT), nx cod_X7_fill cut_X7_fill K (n + 1) 32 L st S = (O_asti aW aW_wi) (nx cod_X7_fill cut_X7_fill K n) 32 L st S) ∧
  (∀ (K : Kt QT) (n : Nat) (L : xL) (st : List Value) (S : QT), nx cod_X7_fill cut_X7_fill K (n + 1) 33 L st S = (O_iload 2 1) (nx cod_X7_fill cut_X7_fill K n) 33 L st S) ∧
  (∀ (K : Kt QT) (n : Nat) (L : xL) (st : List Value) (S : QT), nx cod_X7_fill cut_X7_fill K (n + 1) 34 L st S = (O_iret) (nx cod_X7_fill cut_X7_fill K n) 34 L st S) ∧
  (∀ (K : Kt QT) (n : Nat) (L : xL) (st : List Value) (S : QT), nx cod_X7_fill cut_X7_fill K (n + 1) 100000 L st S = K 100000 L st S) := by
  repeat' apply And.intro
  all_goals (intros; rfl)
set_option maxRecDepth 100000 in
theorem mk_X7_fill {P P' : QT} {r : Option Value} {p0 : Int32} (body : ∀ E : En, CodOk E aW cod_X7_fill → Gd E aW 100000 [] r.toList P' → Gd E aW 0 [some (.ref 0), some (.int p0), none] [] P) : Con yX7_fill cX7_fill 3 (some .int) 1 aW [.ref 0, .int p0] P r P' :=
  Con.of (by decide) ((aW_len P').trans (aW_len P).symm) rfl (Nat.le_of_ble_eq_true rfl) (fun E F G hr => body E (okc_X7_fill F G) hr)
set_option maxRecDepth 10000 in
theorem con_X7_fill (S : ST) (M : MT) (fl : Bool) (v : Int32) (hp : isN M.savedMany M.k 4) : Con yX7_fill cX7_fill 3 (some .int) 1 aW [.ref 0, .int v] (S, M, fl) (some (.int (if inR v 0 20000 = false then -1000001 else S.level))) ((if inR v 0 20000 = true then (S.sLevel v, M.saveA S, fl) else (S, M, fl))) := by
  refine mk_X7_fill (fun E C hr => ?_)
  by_cases c : inR v 0 20000 = true
  · rw [if_neg (by rw [c]; decide), if_pos c] at hr
    (refine nx_ok C (cuts := cut_X7_fill) 1000 _ _ _ _ ?_; simp only [w_X7_fill, ops_eq, xst_eq, call_eq, oK_eq, Option.toList_some, Option.toList_none, List.cons_append, List.nil_append, List.length_cons, List.length_nil, true_and, and_true, Nat.reduceAdd, aW_F, aW_A, aW_P, aW_w, abs_eq, O_asti_eq, v170, cl_eq, ST_id, MT_gs, ST_gs, PT_gs, ZT_gs, NT_gs, ET_gs, se_X7_in, sea_X7_save, bI_eq, inL_lit, c, hp])
    ((repeat' (with_reducible first | apply And.intro | intro _)) <;> first | (with_reducible assumption) | (with_reducible exact Nat.zero_le _) | contradiction | (simp only [Option.toList_none, Option.toList_some] at hr; with_reducible assumption) | (simp_all; done) | assumption)
  · rw [if_neg c] at hr
    have c := bnot c
    rw [if_pos c] at hr
    (refine nx_ok C (cuts := cut_X7_fill) 1000 _ _ _ _ ?_; simp only [w_X7_fill, ops_eq, xst_eq, call_eq, oK_eq, Option.toList_some, Option.toList_none, List.cons_append, List.nil_append, List.length_cons, List.length_nil, true_and, and_true, Nat.reduceAdd, aW_F, aW_A, aW_P, aW_w, abs_eq, O_asti_eq, v170, cl_eq, ST_id, MT_gs, ST_gs, PT_gs, ZT_gs, NT_gs, ET_gs, se_X7_in, sea_X7_save, bI_eq, inL_lit, c])
    ((repeat' (with_reducible first | apply And.intro | intro _)) <;> first | (with_reducible assumption) | (with_reducible exact Nat.zero_le _) | contradiction | (simp only [Option.toList_none, Option.toList_some] at hr; with_reducible assumption) | (simp_all; done) | assumption)
def spc_X7_fill (S : ST) (M : MT) (fl : Bool) (v : Int32) (K : Option Value → QT → Prop) : Prop := (isN M.savedMany M.k 4) ∧ K (some (.int (if inR v 0 20000 = false then -1000001 else S.level))) ((if inR v 0 20000 = true then (S.sLevel v, M.saveA S, fl) else (S, M, fl)))
def sp_X7_fill : Sp QT := fun av q K => match av with
  | [.ref 0, .int v] => spc_X7_fill q.1 q.2.1 q.2.2 v K
  | _ => False
theorem se_X7_fill (S : ST) (M : MT) (fl : Bool) (v : Int32) (K : Option Value → QT → Prop) : sp_X7_fill [.ref 0, .int v] (S, M, fl) K = ((isN M.savedMany M.k 4) ∧ K (some (.int (if inR v 0 20000 = false then -1000001 else S.level))) ((if inR v 0 20000 = true then (S.sLevel v, M.saveA S, fl) else (S, M, fl)))) := rfl
theorem spok_X7_fill : SpOk yX7_fill cX7_fill 3 (some .int) 1 aW sp_X7_fill := by
  intro av q K h
  unfold sp_X7_fill at h
  split at h
  · rename_i v; refine ⟨_, _, ?_, con_X7_fill q.1 q.2.1 q.2.2 v h.1, h.2⟩; trivial
  · exact h.elim
def resM (S : ST) (M : MT) (fl : Bool) : MT := (M.saveA S).evs fl (decide (¬ S.dry = 0 ∧ ¬ S.level < S.settings 12)) 5
def cod_X7_reset : List (Nat × Op QT) := [(0, O_aload 0 1), (1, O_getf aW 7 0), (4, O_int 6 2), (6, O_ald aW 0), (7, O_if_ne 13), (10, O_int (-1000002) 2), (12, O_iret), (13, O_aload 0 1), (14, O_callV 0 0 (fun S => S) (fun _ S' => S') spa_X7_save), (17, O_aload 0 1), (18, O_callV 0 0 (fun S => S) (fun _ S' => S') sp_X7_resets), (21, O_iret)]
abbrev cut_X7_reset : List Nat := []
set_option maxRecDepth 100000 in
theorem okc_X7_reset {E : En} (F : Fx E RX7 cX7_reset 1 2) (G : Fr E (some .int)) : CodOk E aW cod_X7_reset := by
  unfold CodOk cod_X7_reset
  refine List.forall_mem_cons.mpr ⟨ok_aload_n F dX7_reset_0 rfl (by decide), ?_⟩
  refine List.forall_mem_cons.mpr ⟨ok_getf F flX7_7 dX7_reset_1 (by decide), ?_⟩
  refine List.forall_mem_cons.mpr ⟨ok_bipush F dX7_reset_4 (by decide) (by decide), ?_⟩
  refine List.forall_mem_cons.mpr ⟨ok_iald F dX7_reset_6 (by decide), ?_⟩
  refine List.forall_mem_cons.mpr ⟨ok_if_ne F dX7_reset_7 (by decide) (by decide) (by decide), ?_⟩
  refine List.forall_mem_cons.mpr ⟨ok_ldc F (ix := 123) (wsHas_mem (l := [Jvm.Cond.constant RX7 123 (-1000002)]) (by decide +kernel) (by simp)) dX7_reset_10 (by decide), ?_⟩
  refine List.forall_mem_cons.mpr ⟨ok_iret F G dX7_reset_12 (by decide), ?_⟩
  refine List.forall_mem_cons.mpr ⟨ok_aload_n F dX7_reset_13 rfl (by decide), ?_⟩
  refine List.forall_mem_cons.mpr ⟨ok_callV F spoka_X7_save (ln_id aW) rcv_aW (by decide +kernel) (by decide) dX7_reset_14 (by decide), ?_⟩
  refine List.forall_mem_cons.mpr ⟨ok_aload_n F dX7_reset_17 rfl (by decide), ?_⟩
  refine List.forall_mem_cons.mpr ⟨ok_callV F spok_X7_resets (ln_id aW) rcv_aW (by decide +kernel) (by decide) dX7_reset_18 (by decide), ?_⟩
  refine List.forall_mem_cons.mpr ⟨ok_iret F G dX7_reset_21 (by decide), ?_⟩
  exact fun _ h => absurd h List.not_mem_nil
set_option maxRecDepth 100000 in
theorem w_X7_reset : (∀ (K : Kt QT) (n : Nat) (L : xL) (st : List Value) (S : QT), nx cod_X7_reset cut_X7_reset K (n + 1) 0 L st S = (O_aload 0 1) (nx cod_X7_reset cut_X7_reset K n) 0 L st S) ∧
  (∀ (K : Kt QT) (n : Nat) (L : xL) (st : List Value) (S : QT), nx cod_X7_reset cut_X7_reset K (n + 1) 1 L st S = (O_getf aW 7 0) (nx cod_X7_reset cut_X7_reset K n) 1 L st S) ∧
  (∀ (K : Kt QT) (n : Nat) (L : xL) (st : List Value) (S : QT), nx cod_X7_reset cut_X7_reset K (n + 1) 4 L st S = (O_int 6 2) (nx cod_X7_reset cut_X7_reset K n) 4 L st S) ∧
  (∀ (K : Kt QT) (n : Nat) (L : xL) (st : List Value) (S : QT), nx cod_X7_reset cut_X7_reset K (n + 1) 6 L st S = (O_ald aW 0) (nx cod_X7_reset cut_X7_reset K n) 6 L st S) ∧
  (∀ (K : Kt QT) (n : Nat) (L : xL) (st : List Value) (S : QT), nx cod_X7_reset cut_X7_reset K (n + 1) 7 L st S = (O_if_ne 13) (nx cod_X7_reset cut_X7_reset K n) 7 L st S) ∧
  (∀ (K : Kt QT) (n : Nat) (L : xL) (st : List Value) (S : QT), nx cod_X7_reset cut_X7_reset K (n + 1) 10 L st S = (O_int (-1000002) 2) (nx cod_X7_reset cut_X7_reset K n) 10 L st S) ∧
  (∀ (K : Kt QT) (n : Nat) (L : xL) (st : List Value) (S : QT), nx cod_X7_reset cut_X7_reset K (n + 1) 12 L st S = (O_iret) (nx cod_X7_reset cut_X7_reset K n) 12 L st S) ∧
  (∀ (K : Kt QT) (n : Nat) (L : xL) (st : List Value) (S : QT), nx cod_X7_reset cut_X7_reset K (n + 1) 13 L st S = (O_aload 0 1) (nx cod_X7_reset cut_X7_reset K n) 13 L st S) ∧
  (∀ (K : Kt QT) (n : Nat) (L : xL) (st : List Value) (S : QT), nx cod_X7_reset cut_X7_reset K (n + 1) 14 L st S = (O_callV 0 0 (fun S => S) (fun _ S' => S') spa_X7_save) (nx cod_X7_reset cut_X7_reset K n) 14 L st S) ∧
  (∀ (K : Kt QT) (n : Nat) (L : xL) (st : List Value) (S : QT), nx cod_X7_reset cut_X7_reset K (n + 1) 17 L st S = (O_aload 0 1) (nx cod_X7_reset cut_X7_reset K n) 17 L st S) ∧
  (∀ (K : Kt QT) (n : Nat) (L : xL) (st : List Value) (S : QT), nx cod_X7_reset cut_X7_reset K (n + 1) 18 L st S = (O_callV 0 0 (fun S => S) (fun _ S' => S') sp_X7_resets) (nx cod_X7_reset cut_X7_reset K n) 18 L st S) ∧
  (∀ (K : Kt QT) (n : Nat) (L : xL) (st : List Value) (S : QT), nx cod_X7_reset cut_X7_reset K (n + 1) 21 L st S = (O_iret) (nx cod_X7_reset cut_X7_reset K n) 21 L st S) ∧
  (∀ (K : Kt QT) (n : Nat) (L : xL) (st : List Value) (S : QT), nx cod_X7_reset cut_X7_reset K (n + 1) 100000 L st S = K 100000 L st S) := by
  repeat' apply And.intro
  all_goals (intros; rfl)
set_option maxRecDepth 100000 in
theorem mk_X7_reset {P P' : QT} {r : Option Value}  (body : ∀ E : En, CodOk E aW cod_X7_reset → Gd E aW 100000 [] r.toList P' → Gd E aW 0 [some (.ref 0)] [] P) : Con yX7_reset cX7_reset 1 (some .int) 2 aW [.ref 0] P r P' :=
  Con.of (by decide) ((aW_len P').trans (aW_len P).symm) rfl (Nat.le_of_ble_eq_true rfl) (fun E F G hr => body E (okc_X7_reset F G) hr)
set_option maxRecDepth 10000 in
theorem con_X7_reset (S : ST) (M : MT) (fl : Bool)  (hp : S.inv 1 ∧ isN M.savedMany M.k 4) : Con yX7_reset cX7_reset 1 (some .int) 2 aW [.ref 0] (S, M, fl) (some (.int (if S.trips = 0 then -1000002 else S.trips))) ((if S.trips = 0 then (S, M, fl) else ((S.sTrips 0).goOn, resM S M fl, fl))) := by
  refine mk_X7_reset (fun E C hr => ?_)
  obtain ⟨hi, hs⟩ := hp
  by_cases c : S.trips = 0
  · rw [if_pos c, if_pos c] at hr
    (refine nx_ok C (cuts := cut_X7_reset) 1000 _ _ _ _ ?_; simp only [w_X7_reset, ops_eq, xst_eq, call_eq, oK_eq, Option.toList_some, Option.toList_none, List.cons_append, List.nil_append, List.length_cons, List.length_nil, true_and, and_true, Nat.reduceAdd, aW_F, aW_A, aW_P, aW_w, abs_eq, O_asti_eq, v170, cl_eq, ST_id, MT_gs, ST_gs, PT_gs, ZT_gs, NT_gs, ET_gs, sea_X7_save, se_X7_resets, c])
    ((repeat' (with_reducible first | apply And.intro | intro _)) <;> first | (with_reducible assumption) | (with_reducible exact Nat.zero_le _) | contradiction | (simp only [Option.toList_none, Option.toList_some] at hr; with_reducible assumption) | (simp_all; done) | assumption)
  · rw [if_neg c, if_neg c] at hr
    unfold resM at hr
    (refine nx_ok C (cuts := cut_X7_reset) 1000 _ _ _ _ ?_; simp only [w_X7_reset, ops_eq, xst_eq, call_eq, oK_eq, Option.toList_some, Option.toList_none, List.cons_append, List.nil_append, List.length_cons, List.length_nil, true_and, and_true, Nat.reduceAdd, aW_F, aW_A, aW_P, aW_w, abs_eq, O_asti_eq, v170, cl_eq, ST_id, MT_gs, ST_gs, PT_gs, ZT_gs, NT_gs, ET_gs, sea_X7_save, se_X7_resets, c, hs, hi])
    ((repeat' (with_reducible first | apply And.intro | intro _)) <;> first | (with_reducible assumption) | (with_reducible exact Nat.zero_le _) | contradiction | (simp only [Option.toList_none, Option.toList_some] at hr; with_reducible assumption) | (simp_all; done) | assumption)
def spc_X7_reset (S : ST) (M : MT) (fl : Bool)  (K : Option Value → QT → Prop) : Prop := (S.inv 1 ∧ isN M.savedMany M.k 4) ∧ K (some (.int (if S.trips = 0 then -1000002 else S.trips))) ((if S.trips = 0 then (S, M, fl) else ((S.sTrips 0).goOn, resM S M fl, fl)))
def sp_X7_reset : Sp QT := fun av q K => match av with
  | [.ref 0] => spc_X7_reset q.1 q.2.1 q.2.2  K
  | _ => False
theorem se_X7_reset (S : ST) (M : MT) (fl : Bool)  (K : Option Value → QT → Prop) : sp_X7_reset [.ref 0] (S, M, fl) K = ((S.inv 1 ∧ isN M.savedMany M.k 4) ∧ K (some (.int (if S.trips = 0 then -1000002 else S.trips))) ((if S.trips = 0 then (S, M, fl) else ((S.sTrips 0).goOn, resM S M fl, fl)))) := rfl
theorem spok_X7_reset : SpOk yX7_reset cX7_reset 1 (some .int) 2 aW sp_X7_reset := by
  intro av q K h
  unfold sp_X7_reset at h
  split at h
  · refine ⟨_, _, ?_, con_X7_reset q.1 q.2.1 q.2.2  h.1, h.2⟩; trivial
  · exact h.elim
theorem add_put {S : PT} (h : S.inv) (h6 : S.n < 6) : (∀ w, w < 8 → S.put w S.n 0 = S) := by
  intro w hw
  have h0 := h.2.2.1 S.n (Nat.le_refl _) h6
  match w, hw with
  | 0, _ => have e := h0 0 (by decide); show S.sKinds (upd S.kinds S.n 0) = S; conv => lhs; rw [← (show S.kinds S.n = 0 from e)]
            rw [upd_id]; rfl
  | 1, _ => have e := h0 1 (by decide); show S.sShutoffs (upd S.shutoffs S.n 0) = S; conv => lhs; rw [← (show S.shutoffs S.n = 0 from e)]
            rw [upd_id]; rfl
  | 2, _ => have e := h0 2 (by decide); show S.sSteeps (upd S.steeps S.n 0) = S; conv => lhs; rw [← (show S.steeps S.n = 0 from e)]
            rw [upd_id]; rfl
  | 3, _ => have e := h0 3 (by decide); show S.sInService (upd S.inService S.n 0) = S; conv => lhs; rw [← (show S.inService S.n = 0 from e)]
            rw [upd_id]; rfl
  | 4, _ => have e := h0 4 (by decide); show S.sSpeeds (upd S.speeds S.n 0) = S; conv => lhs; rw [← (show S.speeds S.n = 0 from e)]
            rw [upd_id]; rfl
  | 5, _ => have e := h0 5 (by decide); show S.sMinutes (upd S.minutes S.n 0) = S; conv => lhs; rw [← (show S.minutes S.n = 0 from e)]
            rw [upd_id]; rfl
  | 6, _ => have e := h0 6 (by decide); show S.sSince (upd S.since S.n 0) = S; conv => lhs; rw [← (show S.since S.n = 0 from e)]
            rw [upd_id]; rfl
  | 7, _ => have e := h0 7 (by decide); show S.sStarts (upd S.starts S.n 0) = S; conv => lhs; rw [← (show S.starts S.n = 0 from e)]
            rw [upd_id]; rfl
theorem lpp8 {i : Nat} (h : i < 8) : nI i < 8 ∧ nI i + 1 = nI (i + 1) ∧ vp_in (nI i) 8 ∧ (nI i).toNatClampNeg = i := ⟨by rw [show (8 : Int32) = nI 8 from rfl, nI_ltI (by omega) (by omega)]; exact h, nI_1 i, vp_in_nI h (by omega), nI_clamp (by omega)⟩
def cod_X7_pump : List (Nat × Op QT) := [(0, O_iload 1 1), (1, O_i2l), (2, O_long 0 1), (3, O_long 2 3), (6, O_callS 3 sp_X7_in), (9, O_if_eq 38), (12, O_iload 2 1), (13, O_i2l), (14, O_long 100 3), (17, O_long 2000 3), (20, O_callS 3 sp_X7_in), (23, O_if_eq 38), (26, O_iload 3 1), (27, O_i2l), (28, O_long 1 1), (29, O_long 1000 3), (32, O_callS 3 sp_X7_in), (35, O_if_ne 41), (38, O_int (-1000001) 2), (40, O_iret), (41, O_aload 0 1), (42, O_getf aW 7 0), (45, O_int 14 2), (47, O_ald aW 0), (48, O_int 6 2), (50, O_icmp_ne 56), (53, O_int (-1000003) 2), (55, O_iret), (56, O_aload 0 1), (57, O_callV 0 0 (fun S => S) (fun _ S' => S') spa_X7_save), (60, O_aload 0 1), (61, O_getf aW 7 0), (64, O_int 14 2), (66, O_ald aW 0), (67, O_istore 4 2), (69, O_int 0 1), (70, O_istore 5 2), (72, O_iload 5 2), (74, O_int 8 2), (76, O_icmp_ge 94), (79, O_aload 0 1), (80, O_iload 4 2), (82, O_iload 5 2), (84, O_int 0 1), (85, O_callV 3 0 (fun S => S) (fun _ S' => S') sp_X7_put), (88, O_iinc 5 1), (91, O_goto 72), (94, O_aload 0 1), (95, O_iload 4 2), (97, O_int 0 1), (98, O_iload 1 1), (99, O_callV 3 0 (fun S => S) (fun _ S' => S') sp_X7_put), (102, O_aload 0 1), (103, O_iload 4 2), (105, O_int 1 1), (106, O_iload 2 1), (107, O_callV 3 0 (fun S => S) (fun _ S' => S') sp_X7_put), (110, O_aload 0 1), (111, O_iload 4 2), (113, O_int 2 1), (114, O_iload 3 1), (115, O_callV 3 0 (fun S => S) (fun _ S' => S') sp_X7_put), (118, O_aload 0 1), (119, O_iload 4 2), (121, O_int 3 1), (122, O_int 1 1), (123, O_callV 3 0 (fun S => S) (fun _ S' => S') sp_X7_put), (126, O_aload 0 1), (127, O_getf aW 7 0), (130, O_int 14 2), (132, O_dup2), (133, O_ald aW 0), (134, O_int 1 1), (135, O_iadd), (136, O_asti aW aW_wi), (137, O_iload 4 2), (139, O_iret)]
abbrev cut_X7_pump : List Nat := [72]
set_option maxRecDepth 100000 in
theorem okc_X7_pump {E : En} (F : Fx E RX7 cX7_pump 6 1) (G : Fr E (some .int)) : CodOk E aW cod_X7_pump := by
  unfold CodOk cod_X7_pump
  refine List.forall_mem_cons.mpr ⟨ok_iload_n F dX7_pump_0 rfl (by decide), ?_⟩
  refine List.forall_mem_cons.mpr ⟨ok_i2l F dX7_pump_1 (by decide), ?_⟩
  refine List.forall_mem_cons.mpr ⟨ok_lconst F dX7_pump_2 (by decide) (by decide), ?_⟩
  refine List.forall_mem_cons.mpr ⟨ok_ldc2 F (ix := 69) (wsHas_mem (l := [Jvm.Cond.constantLong RX7 69 2]) (by decide +kernel) (by simp)) dX7_pump_3 (by decide), ?_⟩
  refine List.forall_mem_cons.mpr ⟨ok_callS F spok_X7_in (by decide +kernel) rfl (by decide) dX7_pump_6 (by decide), ?_⟩
  refine List.forall_mem_cons.mpr ⟨ok_if_eq F dX7_pump_9 (by decide) (by decide) (by decide), ?_⟩
  refine List.forall_mem_cons.mpr ⟨ok_iload_n F dX7_pump_12 rfl (by decide), ?_⟩
  refine List.forall_mem_cons.mpr ⟨ok_i2l F dX7_pump_13 (by decide), ?_⟩
  refine List.forall_mem_cons.mpr ⟨ok_ldc2 F (ix := 26) (wsHas_mem (l := [Jvm.Cond.constantLong RX7 26 100]) (by decide +kernel) (by simp)) dX7_pump_14 (by decide), ?_⟩
  refine List.forall_mem_cons.mpr ⟨ok_ldc2 F (ix := 71) (wsHas_mem (l := [Jvm.Cond.constantLong RX7 71 2000]) (by decide +kernel) (by simp)) dX7_pump_17 (by decide), ?_⟩
  refine List.forall_mem_cons.mpr ⟨ok_callS F spok_X7_in (by decide +kernel) rfl (by decide) dX7_pump_20 (by decide), ?_⟩
  refine List.forall_mem_cons.mpr ⟨ok_if_eq F dX7_pump_23 (by decide) (by decide) (by decide), ?_⟩
  refine List.forall_mem_cons.mpr ⟨ok_iload_n F dX7_pump_26 rfl (by decide), ?_⟩
  refine List.forall_mem_cons.mpr ⟨ok_i2l F dX7_pump_27 (by decide), ?_⟩
  refine List.forall_mem_cons.mpr ⟨ok_lconst F dX7_pump_28 (by decide) (by decide), ?_⟩
  refine List.forall_mem_cons.mpr ⟨ok_ldc2 F (ix := 40) (wsHas_mem (l := [Jvm.Cond.constantLong RX7 40 1000]) (by decide +kernel) (by simp)) dX7_pump_29 (by decide), ?_⟩
  refine List.forall_mem_cons.mpr ⟨ok_callS F spok_X7_in (by decide +kernel) rfl (by decide) dX7_pump_32 (by decide), ?_⟩
  refine List.forall_mem_cons.mpr ⟨ok_if_ne F dX7_pump_35 (by decide) (by decide) (by decide), ?_⟩
  refine List.forall_mem_cons.mpr ⟨ok_ldc F (ix := 62) (wsHas_mem (l := [Jvm.Cond.constant RX7 62 (-1000001)]) (by decide +kernel) (by simp)) dX7_pump_38 (by decide), ?_⟩
  refine List.forall_mem_cons.mpr ⟨ok_iret F G dX7_pump_40 (by decide), ?_⟩
  refine List.forall_mem_cons.mpr ⟨ok_aload_n F dX7_pump_41 rfl (by decide), ?_⟩
  refine List.forall_mem_cons.mpr ⟨ok_getf F flX7_7 dX7_pump_42 (by decide), ?_⟩
  refine List.forall_mem_cons.mpr ⟨ok_bipush F dX7_pump_45 (by decide) (by decide), ?_⟩
  refine List.forall_mem_cons.mpr ⟨ok_iald F dX7_pump_47 (by decide), ?_⟩
  refine List.forall_mem_cons.mpr ⟨ok_bipush F dX7_pump_48 (by decide) (by decide), ?_⟩
  refine List.forall_mem_cons.mpr ⟨ok_icmp_ne F dX7_pump_50 (by decide) (by decide) (by decide), ?_⟩
  refine List.forall_mem_cons.mpr ⟨ok_ldc F (ix := 73) (wsHas_mem (l := [Jvm.Cond.constant RX7 73 (-1000003)]) (by decide +kernel) (by simp)) dX7_pump_53 (by decide), ?_⟩
  refine List.forall_mem_cons.mpr ⟨ok_iret F G dX7_pump_55 (by decide), ?_⟩
  refine List.forall_mem_cons.mpr ⟨ok_aload_n F dX7_pump_56 rfl (by decide), ?_⟩
  refine List.forall_mem_cons.mpr ⟨ok_callV F spoka_X7_save (ln_id aW) rcv_aW (by decide +kernel) (by decide) dX7_pump_57 (by decide), ?_⟩
  refine List.forall_mem_cons.mpr ⟨ok_aload_n F dX7_pump_60 rfl (by decide), ?_⟩
  refine List.forall_mem_cons.mpr ⟨ok_getf F flX7_7 dX7_pump_61 (by decide), ?_⟩
  refine List.forall_mem_cons.mpr ⟨ok_bipush F dX7_pump_64 (by decide) (by decide), ?_⟩
  refine List.forall_mem_cons.mpr ⟨ok_iald F dX7_pump_66 (by decide), ?_⟩
  refine List.forall_mem_cons.mpr ⟨ok_istore F dX7_pump_67 (by decide) (by decide), ?_⟩
  refine List.forall_mem_cons.mpr ⟨ok_iconst F dX7_pump_69 (by decide) (by decide), ?_⟩
  refine List.forall_mem_cons.mpr ⟨ok_istore F dX7_pump_70 (by decide) (by decide), ?_⟩
  refine List.forall_mem_cons.mpr ⟨ok_iload F dX7_pump_72 (by decide), ?_⟩
  refine List.forall_mem_cons.mpr ⟨ok_bipush F dX7_pump_74 (by decide) (by decide), ?_⟩
  refine List.forall_mem_cons.mpr ⟨ok_icmp_ge F dX7_pump_76 (by decide) (by decide) (by decide), ?_⟩
  refine List.forall_mem_cons.mpr ⟨ok_aload_n F dX7_pump_79 rfl (by decide), ?_⟩
  refine List.forall_mem_cons.mpr ⟨ok_iload F dX7_pump_80 (by decide), ?_⟩
  refine List.forall_mem_cons.mpr ⟨ok_iload F dX7_pump_82 (by decide), ?_⟩
  refine List.forall_mem_cons.mpr ⟨ok_iconst F dX7_pump_84 (by decide) (by decide), ?_⟩
  refine List.forall_mem_cons.mpr ⟨ok_callV F spok_X7_put (ln_id aW) rcv_aW (by decide +kernel) (by decide) dX7_pump_85 (by decide), ?_⟩
  refine List.forall_mem_cons.mpr ⟨ok_iinc F dX7_pump_88 (by decide) (by decide) (by decide), ?_⟩
  refine List.forall_mem_cons.mpr ⟨ok_goto F dX7_pump_91 (by decide) (by decide) (by decide), ?_⟩
  refine List.forall_mem_cons.mpr ⟨ok_aload_n F dX7_pump_94 rfl (by decide), ?_⟩
  refine List.forall_mem_cons.mpr ⟨ok_iload F dX7_pump_95 (by decide), ?_⟩
  refine List.forall_mem_cons.mpr ⟨ok_iconst F dX7_pump_97 (by decide) (by decide), ?_⟩
  refine List.forall_mem_cons.mpr ⟨ok_iload_n F dX7_pump_98 rfl (by decide), ?_⟩
  refine List.forall_mem_cons.mpr ⟨ok_callV F spok_X7_put (ln_id aW) rcv_aW (by decide +kernel) (by decide) dX7_pump_99 (by decide), ?_⟩
  refine List.forall_mem_cons.mpr ⟨ok_aload_n F dX7_pump_102 rfl (by decide), ?_⟩
  refine List.forall_mem_cons.mpr ⟨ok_iload F dX7_pump_103 (by decide), ?_⟩
  refine List.forall_mem_cons.mpr ⟨ok_iconst F dX7_pump_105 (by decide) (by decide), ?_⟩
  refine List.forall_mem_cons.mpr ⟨ok_iload_n F dX7_pump_106 rfl (by decide), ?_⟩
  refine List.forall_mem_cons.mpr ⟨ok_callV F spok_X7_put (ln_id aW) rcv_aW (by decide +kernel) (by decide) dX7_pump_107 (by decide), ?_⟩
  refine List.forall_mem_cons.mpr ⟨ok_aload_n F dX7_pump_110 rfl (by decide), ?_⟩
  refine List.forall_mem_cons.mpr ⟨ok_iload F dX7_pump_111 (by decide), ?_⟩
  refine List.forall_mem_cons.mpr ⟨ok_iconst F dX7_pump_113 (by decide) (by decide), ?_⟩
  refine List.forall_mem_cons.mpr ⟨ok_iload_n F dX7_pump_114 rfl (by decide), ?_⟩
  refine List.forall_mem_cons.mpr ⟨ok_callV F spok_X7_put (ln_id aW) rcv_aW (by decide +kernel) (by decide) dX7_pump_115 (by decide), ?_⟩
  refine List.forall_mem_cons.mpr ⟨ok_aload_n F dX7_pump_118 rfl (by decide), ?_⟩
  refine List.forall_mem_cons.mpr ⟨ok_iload F dX7_pump_119 (by decide), ?_⟩
  refine List.forall_mem_cons.mpr ⟨ok_iconst F dX7_pump_121 (by decide) (by decide), ?_⟩
  refine List.forall_mem_cons.mpr ⟨ok_iconst F dX7_pump_122 (by decide) (by decide), ?_⟩
  refine List.forall_mem_cons.mpr ⟨ok_callV F spok_X7_put (ln_id aW) rcv_aW (by decide +kernel) (by decide) dX7_pump_123 (by decide), ?_⟩
  refine List.forall_mem_cons.mpr ⟨ok_aload_n F dX7_pump_126 rfl (by decide), ?_⟩
  refine List.forall_mem_cons.mpr ⟨ok_getf F flX7_7 dX7_pump_127 (by decide), ?_⟩
  refine List.forall_mem_cons.mpr ⟨ok_bipush F dX7_pump_130 (by decide) (by decide), ?_⟩
  refine List.forall_mem_cons.mpr ⟨ok_dup2 F dX7_pump_132 (by decide), ?_⟩
  refine List.forall_mem_cons.mpr ⟨ok_iald F dX7_pump_133 (by decide), ?_⟩
  refine List.forall_mem_cons.mpr ⟨ok_iconst F dX7_pump_134 (by decide) (by decide), ?_⟩
  refine List.forall_mem_cons.mpr ⟨ok_iadd F dX7_pump_135 (by decide), ?_⟩
  refine List.forall_mem_cons.mpr ⟨ok_asti F aW_wok dX7_pump_136 (by decide), ?_⟩
  refine List.forall_mem_cons.mpr ⟨ok_iload F dX7_pump_137 (by decide), ?_⟩
  refine List.forall_mem_cons.mpr ⟨ok_iret F G dX7_pump_139 (by decide), ?_⟩
  exact fun _ h => absurd h List.not_mem_nil
set_option maxRecDepth 100000 in
theorem w_X7_pump : (∀ (K : Kt QT) (n : Nat) (L : xL) (st : List Value) (S : QT), nx cod_X7_pump cut_X7_pump K (n + 1) 0 L st S = (O_iload 1 1) (nx cod_X7_pump cut_X7_pump K n) 0 L st S) ∧
  (∀ (K : Kt QT) (n : Nat) (L : xL) (st : List Value) (S : QT), nx cod_X7_pump cut_X7_pump K (n + 1) 1 L st S = (O_i2l) (nx cod_X7_pump cut_X7_pump K n) 1 L st S) ∧
  (∀ (K : Kt QT) (n : Nat) (L : xL) (st : List Value) (S : QT), nx cod_X7_pump cut_X7_pump K (n + 1) 2 L st S = (O_long 0 1) (nx cod_X7_pump cut_X7_pump K n) 2 L st S) ∧
  (∀ (K : Kt QT) (n : Nat) (L : xL) (st : List Value) (S : QT), nx cod_X7_pump cut_X7_pump K (n + 1) 3 L st S = (O_long 2 3) (nx cod_X7_pump cut_X7_pump K n) 3 L st S) ∧
  (∀ (K : Kt QT) (n : Nat) (L : xL) (st : List Value) (S : QT), nx cod_X7_pump cut_X7_pump K (n + 1) 6 L st S = (O_callS 3 sp_X7_in) (nx cod_X7_pump cut_X7_pump K n) 6 L st S) ∧
  (∀ (K : Kt QT) (n : Nat) (L : xL) (st : List Value) (S : QT), nx cod_X7_pump cut_X7_pump K (n + 1) 9 L st S = (O_if_eq 38) (nx cod_X7_pump cut_X7_pump K n) 9 L st S) ∧
  (∀ (K : Kt QT) (n : Nat) (L : xL) (st : List Value) (S : QT), nx cod_X7_pump cut_X7_pump K (n + 1) 12 L st S = (O_iload 2 1) (nx cod_X7_pump cut_X7_pump K n) 12 L st S) ∧
  (∀ (K : Kt QT) (n : Nat) (L : xL) (st : List Value) (S : QT), nx cod_X7_pump cut_X7_pump K (n + 1) 13 L st S = (O_i2l) (nx cod_X7_pump cut_X7_pump K n) 13 L st S) ∧
  (∀ (K : Kt QT) (n : Nat) (L : xL) (st : List Value) (S : QT), nx cod_X7_pump cut_X7_pump K (n + 1) 14 L st S = (O_long 100 3) (nx cod_X7_pump cut_X7_pump K n) 14 L st S) ∧
  (∀ (K : Kt QT) (n : Nat) (L : xL) (st : List Value) (S : QT), nx cod_X7_pump cut_X7_pump K (n + 1) 17 L st S = (O_long 2000 3) (nx cod_X7_pump cut_X7_pump K n) 17 L st S) ∧
  (∀ (K : Kt QT) (n : Nat) (L : xL) (st : List Value) (S : QT), nx cod_X7_pump cut_X7_pump K (n + 1) 20 L st S = (O_callS 3 sp_X7_in) (nx cod_X7_pump cut_X7_pump K n) 20 L st S) ∧
  (∀ (K : Kt QT) (n : Nat) (L : xL) (st : List Value) (S : QT), nx cod_X7_pump cut_X7_pump K (n + 1) 23 L st S = (O_if_eq 38) (nx cod_X7_pump cut_X7_pump K n) 23 L st S) ∧
  (∀ (K : Kt QT) (n : Nat) (L : xL) (st : List Value) (S : QT), nx cod_X7_pump cut_X7_pump K (n + 1) 26 L st S = (O_iload 3 1) (nx cod_X7_pump cut_X7_pump K n) 26 L st S) ∧
  (∀ (K : Kt QT) (n : Nat) (L : xL) (st : List Value) (S : QT), nx cod_X7_pump cut_X7_pump K (n + 1) 27 L st S = (O_i2l) (nx cod_X7_pump cut_X7_pump K n) 27 L st S) ∧
  (∀ (K : Kt QT) (n : Nat) (L : xL) (st : List Value) (S : QT), nx cod_X7_pump cut_X7_pump K (n + 1) 28 L st S = (O_long 1 1) (nx cod_X7_pump cut_X7_pump K n) 28 L st S) ∧
  (∀ (K : Kt QT) (n : Nat) (L : xL) (st : List Value) (S : QT), nx cod_X7_pump cut_X7_pump K (n + 1) 29 L st S = (O_long 1000 3) (nx cod_X7_pump cut_X7_pump K n) 29 L st S) ∧
  (∀ (K : Kt QT) (n : Nat) (L : xL) (st : List Value) (S : QT), nx cod_X7_pump cut_X7_pump K (n + 1) 32 L st S = (O_callS 3 sp_X7_in) (nx cod_X7_pump cut_X7_pump K n) 32 L st S) ∧
  (∀ (K : Kt QT) (n : Nat) (L : xL) (st : List Value) (S : QT), nx cod_X7_pump cut_X7_pump K (n + 1) 35 L st S = (O_if_ne 41) (nx cod_X7_pump cut_X7_pump K n) 35 L st S) ∧
  (∀ (K : Kt QT) (n : Nat) (L : xL) (st : List Value) (S : QT), nx cod_X7_pump cut_X7_pump K (n + 1) 38 L st S = (O_int (-1000001) 2) (nx cod_X7_pump cut_X7_pump K n) 38 L st S) ∧
  (∀ (K : Kt QT) (n : Nat) (L : xL) (st : List Value) (S : QT), nx cod_X7_pump cut_X7_pump K (n + 1) 40 L st S = (O_iret) (nx cod_X7_pump cut_X7_pump K n) 40 L st S) ∧
  (∀ (K : Kt QT) (n : Nat) (L : xL) (st : List Value) (S : QT), nx cod_X7_pump cut_X7_pump K (n + 1) 41 L st S = (O_aload 0 1) (nx cod_X7_pump cut_X7_pump K n) 41 L st S) ∧
  (∀ (K : Kt QT) (n : Nat) (L : xL) (st : List Value) (S : QT), nx cod_X7_pump cut_X7_pump K (n + 1) 42 L st S = (O_getf aW 7 0) (nx cod_X7_pump cut_X7_pump K n) 42 L st S) ∧
  (∀ (K : Kt QT) (n : Nat) (L : xL) (st : List Value) (S : QT), nx cod_X7_pump cut_X7_pump K (n + 1) 45 L st S = (O_int 14 2) (nx cod_X7_pump cut_X7_pump K n) 45 L st S) ∧
  (∀ (K : Kt QT) (n : Nat) (L : xL) (st : List Value) (S : QT), nx cod_X7_pump cut_X7_pump K (n + 1) 47 L st S = (O_ald aW 0) (nx cod_X7_pump cut_X7_pump K n) 47 L st S) ∧
  (∀ (K : Kt QT) (n : Nat) (L : xL) (st : List Value) (S : QT), nx cod_X7_pump cut_X7_pump K (n + 1) 48 L st S = (O_int 6 2) (nx cod_X7_pump cut_X7_pump K n) 48 L st S) ∧
  (∀ (K : Kt QT) (n : Nat) (L : xL) (st : List Value) (S : QT), nx cod_X7_pump cut_X7_pump K (n + 1) 50 L st S = (O_icmp_ne 56) (nx cod_X7_pump cut_X7_pump K n) 50 L st S) ∧
  (∀ (K : Kt QT) (n : Nat) (L : xL) (st : List Value) (S : QT), nx cod_X7_pump cut_X7_pump K (n + 1) 53 L st S = (O_int (-1000003) 2) (nx cod_X7_pump cut_X7_pump K n) 53 L st S) ∧
  (∀ (K : Kt QT) (n : Nat) (L : xL) (st : List Value) (S : QT), nx cod_X7_pump cut_X7_pump K (n + 1) 55 L st S = (O_iret) (nx cod_X7_pump cut_X7_pump K n) 55 L st S) ∧
  (∀ (K : Kt QT) (n : Nat) (L : xL) (st : List Value) (S : QT), nx cod_X7_pump cut_X7_pump K (n + 1) 56 L st S = (O_aload 0 1) (nx cod_X7_pump cut_X7_pump K n) 56 L st S) ∧
  (∀ (K : Kt QT) (n : Nat) (L : xL) (st : List Value) (S : QT), nx cod_X7_pump cut_X7_pump K (n + 1) 57 L st S = (O_callV 0 0 (fun S => S) (fun _ S' => S') spa_X7_save) (nx cod_X7_pump cut_X7_pump K n) 57 L st S) ∧
  (∀ (K : Kt QT) (n : Nat) (L : xL) (st : List Value) (S : QT), nx cod_X7_pump cut_X7_pump K (n + 1) 60 L st S = (O_aload 0 1) (nx cod_X7_pump cut_X7_pump K n) 60 L st S) ∧
  (∀ (K : Kt QT) (n : Nat) (L : xL) (st : List Value) (S : QT), nx cod_X7_pump cut_X7_pump K (n + 1) 61 L st S = (O_getf aW 7 0) (nx cod_X7_pump cut_X7_pump K n) 61 L st S) ∧
  (∀ (K : Kt QT) (n : Nat) (L : xL) (st : List Value) (S : QT), nx cod_X7_pump cut_X7_pump K (n + 1) 64 L st S = (O_int 14 2) (nx cod_X7_pump cut_X7_pump K n) 64 L st S) ∧
  (∀ (K : Kt QT) (n : Nat) (L : xL) (st : List Value) (S : QT), nx cod_X7_pump cut_X7_pump K (n + 1) 66 L st S = (O_ald aW 0) (nx cod_X7_pump cut_X7_pump K n) 66 L st S) ∧
  (∀ (K : Kt QT) (n : Nat) (L : xL) (st : List Value) (S : QT), nx cod_X7_pump cut_X7_pump K (n + 1) 67 L st S = (O_istore 4 2) (nx cod_X7_pump cut_X7_pump K n) 67 L st S) ∧
  (∀ (K : Kt QT) (n : Nat) (L : xL) (st : List Value) (S : QT), nx cod_X7_pump cut_X7_pump K (n + 1) 69 L st S = (O_int 0 1) (nx cod_X7_pump cut_X7_pump K n) 69 L st S) ∧
  (∀ (K : Kt QT) (n : Nat) (L : xL) (st : List Value) (S : QT), nx cod_X7_pump cut_X7_pump K (n + 1) 70 L st S = (O_istore 5 2) (nx cod_X7_pump cut_X7_pump K n) 70 L st S) ∧
  (∀ (K : Kt QT) (n : Nat) (L : xL) (st : List Value) (S : QT), nx cod_X7_pump cut_X7_pump K (n + 1) 72 L st S = K 72 L st S) ∧
  (∀ (K : Kt QT) (n : Nat) (L : xL) (st : List Value) (S : QT), nx1 cod_X7_pump cut_X7_pump K n 72 L st S = (O_iload 5 2) (nx cod_X7_pump cut_X7_pump K n) 72 L st S) ∧
  (∀ (K : Kt QT) (n : Nat) (L : xL) (st : List Value) (S : QT), nx cod_X7_pump cut_X7_pump K (n + 1) 74 L st S = (O_int 8 2) (nx cod_X7_pump cut_X7_pump K n) 74 L st S) ∧
  (∀ (K : Kt QT) (n : Nat) (L : xL) (st : List Value) (S : QT), nx cod_X7_pump cut_X7_pump K (n + 1) 76 L st S = (O_icmp_ge 94) (nx cod_X7_pump cut_X7_pump K n) 76 L st S) ∧
  (∀ (K : Kt QT) (n : Nat) (L : xL) (st : List Value) (S : QT), nx cod_X7_pump cut_X7_pump K (n + 1) 79 L st S = (O_aload 0 1) (nx cod_X7_pump cut_X7_pump K n) 79 L st S) ∧
  (∀ (K : Kt QT) (n : Nat) (L : xL) (st : List Value) (S : QT), nx cod_X7_pump cut_X7_pump K (n + 1) 80 L st S = (O_iload 4 2) (nx cod_X7_pump cut_X7_pump K n) 80 L st S) ∧
  (∀ (K : Kt QT) (n : Nat) (L : xL) (st : List Value) (S : QT), nx cod_X7_pump cut_X7_pump K (n + 1) 82 L st S = (O_iload 5 2) (nx cod_X7_pump cut_X7_pump K n) 82 L st S) ∧
  (∀ (K : Kt QT) (n : Nat) (L : xL) (st : List Value) (S : QT), nx cod_X7_pump cut_X7_pump K (n + 1) 84 L st S = (O_int 0 1) (nx cod_X7_pump cut_X7_pump K n) 84 L st S) ∧
  (∀ (K : Kt QT) (n : Nat) (L : xL) (st : List Value) (S : QT), nx cod_X7_pump cut_X7_pump K (n + 1) 85 L st S = (O_callV 3 0 (fun S => S) (fun _ S' => S') sp_X7_put) (nx cod_X7_pump cut_X7_pump K n) 85 L st S) ∧
  (∀ (K : Kt QT) (n : Nat) (L : xL) (st : List Value) (S : QT), nx cod_X7_pump cut_X7_pump K (n + 1) 88 L st S = (O_iinc 5 1) (nx cod_X7_pump cut_X7_pump K n) 88 L st S) ∧
  (∀ (K : Kt QT) (n : Nat) (L : xL) (st : List Value) (S : QT), nx cod_X7_pump cut_X7_pump K (n + 1) 91 L st S = (O_goto 72) (nx cod_X7_pump cut_X7_pump K n) 91 L st S) ∧
  (∀ (K : Kt QT) (n : Nat) (L : xL) (st : List Value) (S : QT), nx cod_X7_pump cut_X7_pump K (n + 1) 94 L st S = (O_aload 0 1) (nx cod_X7_pump cut_X7_pump K n) 94 L st S) ∧
  (∀ (K : Kt QT) (n : Nat) (L : xL) (st : List Value) (S : QT), nx cod_X7_pump cut_X7_pump K (n + 1) 95 L st S = (O_iload 4 2) (nx cod_X7_pump cut_X7_pump K n) 95 L st S) ∧
  (∀ (K : Kt QT) (n : Nat) (L : xL) (st : List Value) (S : QT), nx cod_X7_pump cut_X7_pump K (n + 1) 97 L st S = (O_int 0 1) (nx cod_X7_pump cut_X7_pump K n) 97 L st S) ∧
  (∀ (K : Kt QT) (n : Nat) (L : xL) (st : List Value) (S : QT), nx cod_X7_pump cut_X7_pump K (n + 1) 98 L st S = (O_iload 1 1) (nx cod_X7_pump cut_X7_pump K n) 98 L st S) ∧
  (∀ (K : Kt QT) (n : Nat) (L : xL) (st : List Value) (S : QT), nx cod_X7_pump cut_X7_pump K (n + 1) 99 L st S = (O_callV 3 0 (fun S => S) (fun _ S' => S') sp_X7_put) (nx cod_X7_pump cut_X7_pump K n) 99 L st S) ∧
  (∀ (K : Kt QT) (n : Nat) (L : xL) (st : List Value) (S : QT), nx cod_X7_pump cut_X7_pump K (n + 1) 102 L st S = (O_aload 0 1) (nx cod_X7_pump cut_X7_pump K n) 102 L st S) ∧
  (∀ (K : Kt QT) (n : Nat) (L : xL) (st : List Value) (S : QT), nx cod_X7_pump cut_X7_pump K (n + 1) 103 L st S = (O_iload 4 2) (nx cod_X7_pump cut_X7_pump K n) 103 L st S) ∧
  (∀ (K : Kt QT) (n : Nat) (L : xL) (st : List Value) (S : QT), nx cod_X7_pump cut_X7_pump K (n + 1) 105 L st S = (O_int 1 1) (nx cod_X7_pump cut_X7_pump K n) 105 L st S) ∧
  (∀ (K : Kt QT) (n : Nat) (L : xL) (st : List Value) (S : QT), nx cod_X7_pump cut_X7_pump K (n + 1) 106 L st S = (O_iload 2 1) (nx cod_X7_pump cut_X7_pump K n) 106 L st S) ∧
  (∀ (K : Kt QT) (n : Nat) (L : xL) (st : List Value) (S : QT), nx cod_X7_pump cut_X7_pump K (n + 1) 107 L st S = (O_callV 3 0 (fun S => S) (fun _ S' => S') sp_X7_put) (nx cod_X7_pump cut_X7_pump K n) 107 L st S) ∧
  (∀ (K : Kt QT) (n : Nat) (L : xL) (st : List Value) (S : QT), nx cod_X7_pump cut_X7_pump K (n + 1) 110 L st S = (O_aload 0 1) (nx cod_X7_pump cut_X7_pump K n) 110 L st S) ∧
  (∀ (K : Kt QT) (n : Nat) (L : xL) (st : List Value) (S : QT), nx cod_X7_pump cut_X7_pump K (n + 1) 111 L st S = (O_iload 4 2) (nx cod_X7_pump cut_X7_pump K n) 111 L st S) ∧
  (∀ (K : Kt QT) (n : Nat) (L : xL) (st : List Value) (S : QT), nx cod_X7_pump cut_X7_pump K (n + 1) 113 L st S = (O_int 2 1) (nx cod_X7_pump cut_X7_pump K n) 113 L st S) ∧
  (∀ (K : Kt QT) (n : Nat) (L : xL) (st : List Value) (S : QT), nx cod_X7_pump cut_X7_pump K (n + 1) 114 L st S = (O_iload 3 1) (nx cod_X7_pump cut_X7_pump K n) 114 L st S) ∧
  (∀ (K : Kt QT) (n : Nat) (L : xL) (st : List Value) (S : QT), nx cod_X7_pump cut_X7_pump K (n + 1) 115 L st S = (O_callV 3 0 (fun S => S) (fun _ S' => S') sp_X7_put) (nx cod_X7_pump cut_X7_pump K n) 115 L st S) ∧
  (∀ (K : Kt QT) (n : Nat) (L : xL) (st : List Value) (S : QT), nx cod_X7_pump cut_X7_pump K (n + 1) 118 L st S = (O_aload 0 1) (nx cod_X7_pump cut_X7_pump K n) 118 L st S) ∧
  (∀ (K : Kt QT) (n : Nat) (L : xL) (st : List Value) (S : QT), nx cod_X7_pump cut_X7_pump K (n + 1) 119 L st S = (O_iload 4 2) (nx cod_X7_pump cut_X7_pump K n) 119 L st S) ∧
  (∀ (K : Kt QT) (n : Nat) (L : xL) (st : List Value) (S : QT), nx cod_X7_pump cut_X7_pump K (n + 1) 121 L st S = (O_int 3 1) (nx cod_X7_pump cut_X7_pump K n) 121 L st S) ∧
  (∀ (K : Kt QT) (n : Nat) (L : xL) (st : List Value) (S : QT), nx cod_X7_pump cut_X7_pump K (n + 1) 122 L st S = (O_int 1 1) (nx cod_X7_pump cut_X7_pump K n) 122 L st S) ∧
  (∀ (K : Kt QT) (n : Nat) (L : xL) (st : List Value) (S : QT), nx cod_X7_pump cut_X7_pump K (n + 1) 123 L st S = (O_callV 3 0 (fun S => S) (fun _ S' => S') sp_X7_put) (nx cod_X7_pump cut_X7_pump K n) 123 L st S) ∧
  (∀ (K : Kt QT) (n : Nat) (L : xL) (st : List Value) (S : QT), nx cod_X7_pump cut_X7_pump K (n + 1) 126 L st S = (O_aload 0 1) (nx cod_X7_pump cut_X7_pump K n) 126 L st S) ∧
  (∀ (K : Kt QT) (n : Nat) (L : xL) (st : List Value) (S : QT), nx cod_X7_pump cut_X7_pump K (n + 1) 127 L st S = (O_getf aW 7 0) (nx cod_X7_pump cut_X7_pump K n) 127 L st S) ∧
  (∀ (K : Kt QT) (n : Nat) (L : xL) (st : List Value) (S : QT), nx cod_X7_pump cut_X7_pump K (n + 1) 130 L st S = (O_int 14 2) (nx cod_X7_pump cut_X7_pump K n) 130 L st S) ∧
  (∀ (K : Kt QT) (n : Nat) (L : xL) (st : List Value) (S : QT), nx cod_X7_pump cut_X7_pump K (n + 1) 132 L st S = (O_dup2) (nx cod_X7_pump cut_X7_pump K n) 132 L st S) ∧
  (∀ (K : Kt QT) (n : Nat) (L : xL) (st : List Value) (S : QT), nx cod_X7_pump cut_X7_pump K (n + 1) 133 L st S = (O_ald aW 0) (nx cod_X7_pump cut_X7_pump K n) 133 L st S) ∧
  (∀ (K : Kt QT) (n : Nat) (L : xL) (st : List Value) (S : QT), nx cod_X7_pump cut_X7_pump K (n + 1) 134 L st S = (O_int 1 1) (nx cod_X7_pump cut_X7_pump K n) 134 L st S) ∧
  (∀ (K : Kt QT) (n : Nat) (L : xL) (st : List Value) (S : QT), nx cod_X7_pump cut_X7_pump K (n + 1) 135 L st S = (O_iadd) (nx cod_X7_pump cut_X7_pump K n) 135 L st S) ∧
  (∀ (K : Kt QT) (n : Nat) (L : xL) (st : List Value) (S : QT), nx cod_X7_pump cut_X7_pump K (n + 1) 136 L st S = (O_asti aW aW_wi) (nx cod_X7_pump cut_X7_pump K n) 136 L st S) ∧
  (∀ (K : Kt QT) (n : Nat) (L : xL) (st : List Value) (S : QT), nx cod_X7_pump cut_X7_pump K (n + 1) 137 L st S = (O_iload 4 2) (nx cod_X7_pump cut_X7_pump K n) 137 L st S) ∧
  (∀ (K : Kt QT) (n : Nat) (L : xL) (st : List Value) (S : QT), nx cod_X7_pump cut_X7_pump K (n + 1) 139 L st S = (O_iret) (nx cod_X7_pump cut_X7_pump K n) 139 L st S) ∧
  (∀ (K : Kt QT) (n : Nat) (L : xL) (st : List Value) (S : QT), nx cod_X7_pump cut_X7_pump K (n + 1) 100000 L st S = K 100000 L st S) := by
  repeat' apply And.intro
  all_goals (intros; rfl)
set_option maxRecDepth 100000 in
theorem mk_X7_pump {P P' : QT} {r : Option Value} {p0 : Int32} {p1 : Int32} {p2 : Int32} (body : ∀ E : En, CodOk E aW cod_X7_pump → Gd E aW 100000 [] r.toList P' → Gd E aW 0 [some (.ref 0), some (.int p0), some (.int p1), some (.int p2), none, none] [] P) : Con yX7_pump cX7_pump 6 (some .int) 1 aW [.ref 0, .int p0, .int p1, .int p2] P r P' :=
  Con.of (by decide) ((aW_len P').trans (aW_len P).symm) rfl (Nat.le_of_ble_eq_true rfl) (fun E F G hr => body E (okc_X7_pump F G) hr)
set_option maxRecDepth 10000 in
theorem con_X7_pump (S : ST) (M : MT) (fl : Bool) (k : Int32) (s : Int32) (t : Int32) (hp : S.inv 1 ∧ isN M.savedMany M.k 4) : Con yX7_pump cX7_pump 6 (some .int) 1 aW [.ref 0, .int k, .int s, .int t] (S, M, fl) (some (.int (if okPump k s t = false then -1000001 else if S.P.size < 6 then S.P.size else -1000003))) ((if okPump k s t = true ∧ S.P.size < 6 then (S.sP (S.P.add k s t), M.saveA S, fl) else (S, M, fl))) := by
  refine mk_X7_pump (fun E C hr => ?_)
  obtain ⟨hi, hs⟩ := hp
  have hP := hi.1
  have ho := hi.1.1
  obtain ⟨o1, o2, o3⟩ := id ho
  have h6 : (S.P.size = 6) ↔ ¬ S.P.size < 6 := by
    rw [o1, show (6 : Int32) = nI 6 from rfl, nI_eq (by omega) (by omega), nI_ltI (by omega) (by omega)]
    omega
  by_cases c1 : inR k 0 2 = true
  · by_cases c2 : inR s 100 2000 = true
    · by_cases c3 : inR t 1 1000 = true
      · have hc : okPump k s t = true := by unfold okPump; rw [c1, c2, c3]; rfl
        rw [if_neg (by rw [hc]; decide)] at hr
        by_cases c4 : S.P.size < 6
        · rw [if_pos c4, if_pos ⟨hc, c4⟩] at hr
          have hn : S.P.n < 6 := by
            rw [o1, show (6 : Int32) = nI 6 from rfl, nI_ltI (by omega) (by omega)] at c4
            exact c4
          have c5 : ¬ S.P.size = 6 := fun z => (h6.mp z) c4
          have hv : vp_in S.P.size 6 := by rw [o1]; exact vp_in_nI hn (by omega)
          have hcl : S.P.size.toNatClampNeg = S.P.n := rfl
          have hpz := add_put hP hn
          have e : S.sP (S.P.add k s t) = S.sP (((((S.P.sKinds (upd S.P.kinds S.P.n k)).sShutoffs (upd S.P.shutoffs S.P.n s)).sSteeps (upd S.P.steeps S.P.n t)).sInService (upd S.P.inService S.P.n 1)).sSize (S.P.size + 1)) := rfl
          rw [e] at hr
          clear e
          have key : Gd E aW 72 [some (.ref 0), some (.int k), some (.int s), some (.int t), some (.int S.P.size), some (.int (nI 0))] [] (S, M.saveA S, fl) := by
            refine it_up (f := fun _ (u : Unit) => u) (a := ()) (n := 8) (fun _ _ => True) (fun i _ => Gd E aW 72 [some (.ref 0), some (.int k), some (.int s), some (.int t), some (.int S.P.size), some (.int (nI i))] [] (S, M.saveA S, fl)) trivial (fun _ _ _ _ => trivial) (fun i _ hi8 _ hn2 => ?_) ?_
            · have hx := lpp8 hi8
              have hz := hpz i hi8
              have ez : S.sP S.P = S := rfl
              clear hr h6 o1
              (refine nx1_ok C cut_X7_pump 1000 ?_; simp only [w_X7_pump, ops_eq, xst_eq, call_eq, oK_eq, Option.toList_some, Option.toList_none, List.cons_append, List.nil_append, List.length_cons, List.length_nil, true_and, and_true, Nat.reduceAdd, aW_F, aW_A, aW_P, aW_w, abs_eq, O_asti_eq, v170, cl_eq, ST_id, MT_gs, ST_gs, PT_gs, ZT_gs, NT_gs, ET_gs, se_X7_in, sea_X7_save, se_X7_put, hx, hv, hcl, hz, ez])
              ((repeat' (with_reducible first | apply And.intro | intro _)) <;> first | (with_reducible assumption) | (with_reducible exact Nat.zero_le _) | contradiction | (simp only [Option.toList_none, Option.toList_some] at hr; with_reducible assumption) | (simp_all; done) | assumption)
            · clear h6 o1
              (refine nx1_ok C cut_X7_pump 1000 ?_; simp only [w_X7_pump, ops_eq, xst_eq, call_eq, oK_eq, Option.toList_some, Option.toList_none, List.cons_append, List.nil_append, List.length_cons, List.length_nil, true_and, and_true, Nat.reduceAdd, aW_F, aW_A, aW_P, aW_w, abs_eq, O_asti_eq, v170, cl_eq, ST_id, MT_gs, ST_gs, PT_gs, ZT_gs, NT_gs, ET_gs, se_X7_in, sea_X7_save, se_X7_put, show ¬ nI 8 < 8 from by decide, hv, hcl, v8_eq, put_eq])
              ((repeat' (with_reducible first | apply And.intro | intro _)) <;> first | (with_reducible assumption) | (with_reducible exact Nat.zero_le _) | contradiction | (simp only [Option.toList_none, Option.toList_some] at hr; with_reducible assumption) | (simp_all; done) | assumption)
          clear hr
          (refine nx_ok C (cuts := cut_X7_pump) 1000 _ _ _ _ ?_; simp only [w_X7_pump, ops_eq, xst_eq, call_eq, oK_eq, Option.toList_some, Option.toList_none, List.cons_append, List.nil_append, List.length_cons, List.length_nil, true_and, and_true, Nat.reduceAdd, aW_F, aW_A, aW_P, aW_w, abs_eq, O_asti_eq, v170, cl_eq, ST_id, MT_gs, ST_gs, PT_gs, ZT_gs, NT_gs, ET_gs, se_X7_in, sea_X7_save, se_X7_put, bI_eq, inL_lit, c1, c2, c3, c5, hs])
          ((repeat' (with_reducible first | apply And.intro | intro _)) <;> first | (with_reducible assumption) | (with_reducible exact Nat.zero_le _) | contradiction | (simp only [Option.toList_none, Option.toList_some] at hr; with_reducible assumption) | (simp_all; done) | assumption)
        · have c5 := h6.mpr c4
          rw [if_neg c4, if_neg (fun z => c4 z.2)] at hr
          (refine nx_ok C (cuts := cut_X7_pump) 1000 _ _ _ _ ?_; simp only [w_X7_pump, ops_eq, xst_eq, call_eq, oK_eq, Option.toList_some, Option.toList_none, List.cons_append, List.nil_append, List.length_cons, List.length_nil, true_and, and_true, Nat.reduceAdd, aW_F, aW_A, aW_P, aW_w, abs_eq, O_asti_eq, v170, cl_eq, ST_id, MT_gs, ST_gs, PT_gs, ZT_gs, NT_gs, ET_gs, se_X7_in, sea_X7_save, se_X7_put, bI_eq, inL_lit, c1, c2, c3, c5, hs])
          ((repeat' (with_reducible first | apply And.intro | intro _)) <;> first | (with_reducible assumption) | (with_reducible exact Nat.zero_le _) | contradiction | (simp only [Option.toList_none, Option.toList_some] at hr; with_reducible assumption) | (simp_all; done) | assumption)
      · have c3 := bnot c3
        have hc : okPump k s t = false := by unfold okPump; rw [c1, c2, c3]; rfl
        rw [if_pos hc, if_neg (fun z => by rw [hc] at z; cases z.1)] at hr
        (refine nx_ok C (cuts := cut_X7_pump) 1000 _ _ _ _ ?_; simp only [w_X7_pump, ops_eq, xst_eq, call_eq, oK_eq, Option.toList_some, Option.toList_none, List.cons_append, List.nil_append, List.length_cons, List.length_nil, true_and, and_true, Nat.reduceAdd, aW_F, aW_A, aW_P, aW_w, abs_eq, O_asti_eq, v170, cl_eq, ST_id, MT_gs, ST_gs, PT_gs, ZT_gs, NT_gs, ET_gs, se_X7_in, sea_X7_save, se_X7_put, bI_eq, inL_lit, c1, c2, c3])
        ((repeat' (with_reducible first | apply And.intro | intro _)) <;> first | (with_reducible assumption) | (with_reducible exact Nat.zero_le _) | contradiction | (simp only [Option.toList_none, Option.toList_some] at hr; with_reducible assumption) | (simp_all; done) | assumption)
    · have c2 := bnot c2
      have hc : okPump k s t = false := by unfold okPump; rw [c1, c2]; rfl
      rw [if_pos hc, if_neg (fun z => by rw [hc] at z; cases z.1)] at hr
      (refine nx_ok C (cuts := cut_X7_pump) 1000 _ _ _ _ ?_; simp only [w_X7_pump, ops_eq, xst_eq, call_eq, oK_eq, Option.toList_some, Option.toList_none, List.cons_append, List.nil_append, List.length_cons, List.length_nil, true_and, and_true, Nat.reduceAdd, aW_F, aW_A, aW_P, aW_w, abs_eq, O_asti_eq, v170, cl_eq, ST_id, MT_gs, ST_gs, PT_gs, ZT_gs, NT_gs, ET_gs, se_X7_in, sea_X7_save, se_X7_put, bI_eq, inL_lit, c1, c2])
      ((repeat' (with_reducible first | apply And.intro | intro _)) <;> first | (with_reducible assumption) | (with_reducible exact Nat.zero_le _) | contradiction | (simp only [Option.toList_none, Option.toList_some] at hr; with_reducible assumption) | (simp_all; done) | assumption)
  · have c1 := bnot c1
    have hc : okPump k s t = false := by unfold okPump; rw [c1]; rfl
    rw [if_pos hc, if_neg (fun z => by rw [hc] at z; cases z.1)] at hr
    (refine nx_ok C (cuts := cut_X7_pump) 1000 _ _ _ _ ?_; simp only [w_X7_pump, ops_eq, xst_eq, call_eq, oK_eq, Option.toList_some, Option.toList_none, List.cons_append, List.nil_append, List.length_cons, List.length_nil, true_and, and_true, Nat.reduceAdd, aW_F, aW_A, aW_P, aW_w, abs_eq, O_asti_eq, v170, cl_eq, ST_id, MT_gs, ST_gs, PT_gs, ZT_gs, NT_gs, ET_gs, se_X7_in, sea_X7_save, se_X7_put, bI_eq, inL_lit, c1])
    ((repeat' (with_reducible first | apply And.intro | intro _)) <;> first | (with_reducible assumption) | (with_reducible exact Nat.zero_le _) | contradiction | (simp only [Option.toList_none, Option.toList_some] at hr; with_reducible assumption) | (simp_all; done) | assumption)
def spc_X7_pump (S : ST) (M : MT) (fl : Bool) (k : Int32) (s : Int32) (t : Int32) (K : Option Value → QT → Prop) : Prop := (S.inv 1 ∧ isN M.savedMany M.k 4) ∧ K (some (.int (if okPump k s t = false then -1000001 else if S.P.size < 6 then S.P.size else -1000003))) ((if okPump k s t = true ∧ S.P.size < 6 then (S.sP (S.P.add k s t), M.saveA S, fl) else (S, M, fl)))
def sp_X7_pump : Sp QT := fun av q K => match av with
  | [.ref 0, .int k, .int s, .int t] => spc_X7_pump q.1 q.2.1 q.2.2 k s t K
  | _ => False
theorem se_X7_pump (S : ST) (M : MT) (fl : Bool) (k : Int32) (s : Int32) (t : Int32) (K : Option Value → QT → Prop) : sp_X7_pump [.ref 0, .int k, .int s, .int t] (S, M, fl) K = ((S.inv 1 ∧ isN M.savedMany M.k 4) ∧ K (some (.int (if okPump k s t = false then -1000001 else if S.P.size < 6 then S.P.size else -1000003))) ((if okPump k s t = true ∧ S.P.size < 6 then (S.sP (S.P.add k s t), M.saveA S, fl) else (S, M, fl)))) := rfl
theorem spok_X7_pump : SpOk yX7_pump cX7_pump 6 (some .int) 1 aW sp_X7_pump := by
  intro av q K h
  unfold sp_X7_pump at h
  split at h
  · rename_i k s t; refine ⟨_, _, ?_, con_X7_pump q.1 q.2.1 q.2.2 k s t h.1, h.2⟩; trivial
  · exact h.elim
def okServ7 (S : ST) (p is : Int32) : Bool := S.P.has p && inR is 0 1
theorem is01 {x : Int32} (h : inR x 0 1 = true) : b01 x := by
  obtain ⟨n, hn, rfl, _⟩ := inR_nI (b := 1) h (by omega)
  match n, hn with
  | 0, _ => exact Or.inl rfl
  | 1, _ => exact Or.inr rfl
theorem bI_is {x : Int32} (h : b01 x) : bI (decide (x = 1)) = x := by
  rcases h with rfl | rfl <;> rfl
def servM (S : ST) (M : MT) (fl : Bool) (p is : Int32) : MT := (M.saveA S).evs fl (decide (is = 0) && S.P.runs p) 1
def cod_X7_service : List (Nat × Op QT) := [(0, O_aload 0 1), (1, O_iload 1 1), (2, O_callV 1 0 (fun S => S) (fun _ S' => S') sp_X7_isPump), (5, O_if_eq 18), (8, O_iload 2 1), (9, O_i2l), (10, O_long 0 1), (11, O_long 1 1), (12, O_callS 3 sp_X7_in), (15, O_if_ne 21), (18, O_int (-1000001) 2), (20, O_iret), (21, O_aload 0 1), (22, O_iload 1 1), (23, O_int 3 1), (24, O_callV 2 0 (fun S => S) (fun _ S' => S') sp_X7_of), (27, O_iload 2 1), (28, O_icmp_ne 34), (31, O_int (-1000002) 2), (33, O_iret), (34, O_aload 0 1), (35, O_callV 0 0 (fun S => S) (fun _ S' => S') spa_X7_save), (38, O_aload 0 1), (39, O_iload 1 1), (40, O_iload 2 1), (41, O_callV 2 0 (fun S => S) (fun _ S' => S') sp_X7_serves), (44, O_iret)]
abbrev cut_X7_service : List Nat := []
set_option maxRecDepth 100000 in
theorem okc_X7_service {E : En} (F : Fx E RX7 cX7_service 3 5) (G : Fr E (some .int)) : CodOk E aW cod_X7_service := by
  unfold CodOk cod_X7_service
  refine List.forall_mem_cons.mpr ⟨ok_aload_n F dX7_service_0 rfl (by decide), ?_⟩
  refine List.forall_mem_cons.mpr ⟨ok_iload_n F dX7_service_1 rfl (by decide), ?_⟩
  refine List.forall_mem_cons.mpr ⟨ok_callV F spok_X7_isPump (ln_id aW) rcv_aW (by decide +kernel) (by decide) dX7_service_2 (by decide), ?_⟩
  refine List.forall_mem_cons.mpr ⟨ok_if_eq F dX7_service_5 (by decide) (by decide) (by decide), ?_⟩
  refine List.forall_mem_cons.mpr ⟨ok_iload_n F dX7_service_8 rfl (by decide), ?_⟩
  refine List.forall_mem_cons.mpr ⟨ok_i2l F dX7_service_9 (by decide), ?_⟩
  refine List.forall_mem_cons.mpr ⟨ok_lconst F dX7_service_10 (by decide) (by decide), ?_⟩
  refine List.forall_mem_cons.mpr ⟨ok_lconst F dX7_service_11 (by decide) (by decide), ?_⟩
  refine List.forall_mem_cons.mpr ⟨ok_callS F spok_X7_in (by decide +kernel) rfl (by decide) dX7_service_12 (by decide), ?_⟩
  refine List.forall_mem_cons.mpr ⟨ok_if_ne F dX7_service_15 (by decide) (by decide) (by decide), ?_⟩
  refine List.forall_mem_cons.mpr ⟨ok_ldc F (ix := 62) (wsHas_mem (l := [Jvm.Cond.constant RX7 62 (-1000001)]) (by decide +kernel) (by simp)) dX7_service_18 (by decide), ?_⟩
  refine List.forall_mem_cons.mpr ⟨ok_iret F G dX7_service_20 (by decide), ?_⟩
  refine List.forall_mem_cons.mpr ⟨ok_aload_n F dX7_service_21 rfl (by decide), ?_⟩
  refine List.forall_mem_cons.mpr ⟨ok_iload_n F dX7_service_22 rfl (by decide), ?_⟩
  refine List.forall_mem_cons.mpr ⟨ok_iconst F dX7_service_23 (by decide) (by decide), ?_⟩
  refine List.forall_mem_cons.mpr ⟨ok_callV F spok_X7_of (ln_id aW) rcv_aW (by decide +kernel) (by decide) dX7_service_24 (by decide), ?_⟩
  refine List.forall_mem_cons.mpr ⟨ok_iload_n F dX7_service_27 rfl (by decide), ?_⟩
  refine List.forall_mem_cons.mpr ⟨ok_icmp_ne F dX7_service_28 (by decide) (by decide) (by decide), ?_⟩
  refine List.forall_mem_cons.mpr ⟨ok_ldc F (ix := 123) (wsHas_mem (l := [Jvm.Cond.constant RX7 123 (-1000002)]) (by decide +kernel) (by simp)) dX7_service_31 (by decide), ?_⟩
  refine List.forall_mem_cons.mpr ⟨ok_iret F G dX7_service_33 (by decide), ?_⟩
  refine List.forall_mem_cons.mpr ⟨ok_aload_n F dX7_service_34 rfl (by decide), ?_⟩
  refine List.forall_mem_cons.mpr ⟨ok_callV F spoka_X7_save (ln_id aW) rcv_aW (by decide +kernel) (by decide) dX7_service_35 (by decide), ?_⟩
  refine List.forall_mem_cons.mpr ⟨ok_aload_n F dX7_service_38 rfl (by decide), ?_⟩
  refine List.forall_mem_cons.mpr ⟨ok_iload_n F dX7_service_39 rfl (by decide), ?_⟩
  refine List.forall_mem_cons.mpr ⟨ok_iload_n F dX7_service_40 rfl (by decide), ?_⟩
  refine List.forall_mem_cons.mpr ⟨ok_callV F spok_X7_serves (ln_id aW) rcv_aW (by decide +kernel) (by decide) dX7_service_41 (by decide), ?_⟩
  refine List.forall_mem_cons.mpr ⟨ok_iret F G dX7_service_44 (by decide), ?_⟩
  exact fun _ h => absurd h List.not_mem_nil
set_option maxRecDepth 100000 in
theorem w_X7_service : (∀ (K : Kt QT) (n : Nat) (L : xL) (st : List Value) (S : QT), nx cod_X7_service cut_X7_service K (n + 1) 0 L st S = (O_aload 0 1) (nx cod_X7_service cut_X7_service K n) 0 L st S) ∧
  (∀ (K : Kt QT) (n : Nat) (L : xL) (st : List Value) (S : QT), nx cod_X7_service cut_X7_service K (n + 1) 1 L st S = (O_iload 1 1) (nx cod_X7_service cut_X7_service K n) 1 L st S) ∧
  (∀ (K : Kt QT) (n : Nat) (L : xL) (st : List Value) (S : QT), nx cod_X7_service cut_X7_service K (n + 1) 2 L st S = (O_callV 1 0 (fun S => S) (fun _ S' => S') sp_X7_isPump) (nx cod_X7_service cut_X7_service K n) 2 L st S) ∧
  (∀ (K : Kt QT) (n : Nat) (L : xL) (st : List Value) (S : QT), nx cod_X7_service cut_X7_service K (n + 1) 5 L st S = (O_if_eq 18) (nx cod_X7_service cut_X7_service K n) 5 L st S) ∧
  (∀ (K : Kt QT) (n : Nat) (L : xL) (st : List Value) (S : QT), nx cod_X7_service cut_X7_service K (n + 1) 8 L st S = (O_iload 2 1) (nx cod_X7_service cut_X7_service K n) 8 L st S) ∧
  (∀ (K : Kt QT) (n : Nat) (L : xL) (st : List Value) (S : QT), nx cod_X7_service cut_X7_service K (n + 1) 9 L st S = (O_i2l) (nx cod_X7_service cut_X7_service K n) 9 L st S) ∧
  (∀ (K : Kt QT) (n : Nat) (L : xL) (st : List Value) (S : QT), nx cod_X7_service cut_X7_service K (n + 1) 10 L st S = (O_long 0 1) (nx cod_X7_service cut_X7_service K n) 10 L st S) ∧
  (∀ (K : Kt QT) (n : Nat) (L : xL) (st : List Value) (S : QT), nx cod_X7_service cut_X7_service K (n + 1) 11 L st S = (O_long 1 1) (nx cod_X7_service cut_X7_service K n) 11 L st S) ∧
  (∀ (K : Kt QT) (n : Nat) (L : xL) (st : List Value) (S : QT), nx cod_X7_service cut_X7_service K (n + 1) 12 L st S = (O_callS 3 sp_X7_in) (nx cod_X7_service cut_X7_service K n) 12 L st S) ∧
  (∀ (K : Kt QT) (n : Nat) (L : xL) (st : List Value) (S : QT), nx cod_X7_service cut_X7_service K (n + 1) 15 L st S = (O_if_ne 21) (nx cod_X7_service cut_X7_service K n) 15 L st S) ∧
  (∀ (K : Kt QT) (n : Nat) (L : xL) (st : List Value) (S : QT), nx cod_X7_service cut_X7_service K (n + 1) 18 L st S = (O_int (-1000001) 2) (nx cod_X7_service cut_X7_service K n) 18 L st S) ∧
  (∀ (K : Kt QT) (n : Nat) (L : xL) (st : List Value) (S : QT), nx cod_X7_service cut_X7_service K (n + 1) 20 L st S = (O_iret) (nx cod_X7_service cut_X7_service K n) 20 L st S) ∧
  (∀ (K : Kt QT) (n : Nat) (L : xL) (st : List Value) (S : QT), nx cod_X7_service cut_X7_service K (n + 1) 21 L st S = (O_aload 0 1) (nx cod_X7_service cut_X7_service K n) 21 L st S) ∧
  (∀ (K : Kt QT) (n : Nat) (L : xL) (st : List Value) (S : QT), nx cod_X7_service cut_X7_service K (n + 1) 22 L st S = (O_iload 1 1) (nx cod_X7_service cut_X7_service K n) 22 L st S) ∧
  (∀ (K : Kt QT) (n : Nat) (L : xL) (st : List Value) (S : QT), nx cod_X7_service cut_X7_service K (n + 1) 23 L st S = (O_int 3 1) (nx cod_X7_service cut_X7_service K n) 23 L st S) ∧
  (∀ (K : Kt QT) (n : Nat) (L : xL) (st : List Value) (S : QT), nx cod_X7_service cut_X7_service K (n + 1) 24 L st S = (O_callV 2 0 (fun S => S) (fun _ S' => S') sp_X7_of) (nx cod_X7_service cut_X7_service K n) 24 L st S) ∧
  (∀ (K : Kt QT) (n : Nat) (L : xL) (st : List Value) (S : QT), nx cod_X7_service cut_X7_service K (n + 1) 27 L st S = (O_iload 2 1) (nx cod_X7_service cut_X7_service K n) 27 L st S) ∧
  (∀ (K : Kt QT) (n : Nat) (L : xL) (st : List Value) (S : QT), nx cod_X7_service cut_X7_service K (n + 1) 28 L st S = (O_icmp_ne 34) (nx cod_X7_service cut_X7_service K n) 28 L st S) ∧
  (∀ (K : Kt QT) (n : Nat) (L : xL) (st : List Value) (S : QT), nx cod_X7_service cut_X7_service K (n + 1) 31 L st S = (O_int (-1000002) 2) (nx cod_X7_service cut_X7_service K n) 31 L st S) ∧
  (∀ (K : Kt QT) (n : Nat) (L : xL) (st : List Value) (S : QT), nx cod_X7_service cut_X7_service K (n + 1) 33 L st S = (O_iret) (nx cod_X7_service cut_X7_service K n) 33 L st S) ∧
  (∀ (K : Kt QT) (n : Nat) (L : xL) (st : List Value) (S : QT), nx cod_X7_service cut_X7_service K (n + 1) 34 L st S = (O_aload 0 1) (nx cod_X7_service cut_X7_service K n) 34 L st S) ∧
  (∀ (K : Kt QT) (n : Nat) (L : xL) (st : List Value) (S : QT), nx cod_X7_service cut_X7_service K (n + 1) 35 L st S = (O_callV 0 0 (fun S => S) (fun _ S' => S') spa_X7_save) (nx cod_X7_service cut_X7_service K n) 35 L st S) ∧
  (∀ (K : Kt QT) (n : Nat) (L : xL) (st : List Value) (S : QT), nx cod_X7_service cut_X7_service K (n + 1) 38 L st S = (O_aload 0 1) (nx cod_X7_service cut_X7_service K n) 38 L st S) ∧
  (∀ (K : Kt QT) (n : Nat) (L : xL) (st : List Value) (S : QT), nx cod_X7_service cut_X7_service K (n + 1) 39 L st S = (O_iload 1 1) (nx cod_X7_service cut_X7_service K n) 39 L st S) ∧
  (∀ (K : Kt QT) (n : Nat) (L : xL) (st : List Value) (S : QT), nx cod_X7_service cut_X7_service K (n + 1) 40 L st S = (O_iload 2 1) (nx cod_X7_service cut_X7_service K n) 40 L st S) ∧
  (∀ (K : Kt QT) (n : Nat) (L : xL) (st : List Value) (S : QT), nx cod_X7_service cut_X7_service K (n + 1) 41 L st S = (O_callV 2 0 (fun S => S) (fun _ S' => S') sp_X7_serves) (nx cod_X7_service cut_X7_service K n) 41 L st S) ∧
  (∀ (K : Kt QT) (n : Nat) (L : xL) (st : List Value) (S : QT), nx cod_X7_service cut_X7_service K (n + 1) 44 L st S = (O_iret) (nx cod_X7_service cut_X7_service K n) 44 L st S) ∧
  (∀ (K : Kt QT) (n : Nat) (L : xL) (st : List Value) (S : QT), nx cod_X7_service cut_X7_service K (n + 1) 100000 L st S = K 100000 L st S) := by
  repeat' apply And.intro
  all_goals (intros; rfl)
set_option maxRecDepth 100000 in
theorem mk_X7_service {P P' : QT} {r : Option Value} {p0 : Int32} {p1 : Int32} (body : ∀ E : En, CodOk E aW cod_X7_service → Gd E aW 100000 [] r.toList P' → Gd E aW 0 [some (.ref 0), some (.int p0), some (.int p1)] [] P) : Con yX7_service cX7_service 3 (some .int) 5 aW [.ref 0, .int p0, .int p1] P r P' :=
  Con.of (by decide) ((aW_len P').trans (aW_len P).symm) rfl (Nat.le_of_ble_eq_true rfl) (fun E F G hr => body E (okc_X7_service F G) hr)
set_option maxRecDepth 10000 in
theorem con_X7_service (S : ST) (M : MT) (fl : Bool) (p : Int32) (is : Int32) (hp : S.inv 1 ∧ isN M.savedMany M.k 4) : Con yX7_service cX7_service 3 (some .int) 5 aW [.ref 0, .int p, .int is] (S, M, fl) (some (.int (if okServ7 S p is = false then -1000001 else if S.P.inService p.toNatClampNeg = is then -1000002 else bI (decide (is = 0) && S.P.runs p)))) ((if okServ7 S p is = true ∧ ¬ S.P.inService p.toNatClampNeg = is then (S.change p is, servM S M fl p is, fl) else (S, M, fl))) := by
  refine mk_X7_service (fun E C hr => ?_)
  obtain ⟨hi, hs⟩ := hp
  have hP := hi.1
  have ho := hi.1.1
  by_cases c1 : S.P.has p = true
  · by_cases c2 : inR is 0 1 = true
    · have hc : okServ7 S p is = true := by unfold okServ7; rw [c1, c2]; rfl
      have hb := is01 c2
      have hv := PT.has_in ho c1
      rw [if_neg (by rw [hc]; decide)] at hr
      by_cases c3 : S.P.inService p.toNatClampNeg = is
      · rw [if_pos c3, if_neg (fun z => z.2 c3)] at hr
        (refine nx_ok C (cuts := cut_X7_service) 1000 _ _ _ _ ?_; simp only [w_X7_service, ops_eq, xst_eq, call_eq, oK_eq, Option.toList_some, Option.toList_none, List.cons_append, List.nil_append, List.length_cons, List.length_nil, true_and, and_true, Nat.reduceAdd, aW_F, aW_A, aW_P, aW_w, abs_eq, O_asti_eq, v170, cl_eq, ST_id, MT_gs, ST_gs, PT_gs, ZT_gs, NT_gs, ET_gs, se_X7_isPump, se_X7_in, se_X7_of, sea_X7_save, se_X7_serves, bI_eq, inL_lit, v8_eq, get_eq, c1, c2, c3, hv, ho])
        ((repeat' (with_reducible first | apply And.intro | intro _)) <;> first | (with_reducible assumption) | (with_reducible exact Nat.zero_le _) | contradiction | (simp only [Option.toList_none, Option.toList_some] at hr; with_reducible assumption) | (simp_all; done) | assumption)
      · rw [if_neg c3, if_pos ⟨hc, c3⟩] at hr
        unfold servM at hr
        (refine nx_ok C (cuts := cut_X7_service) 1000 _ _ _ _ ?_; simp only [w_X7_service, ops_eq, xst_eq, call_eq, oK_eq, Option.toList_some, Option.toList_none, List.cons_append, List.nil_append, List.length_cons, List.length_nil, true_and, and_true, Nat.reduceAdd, aW_F, aW_A, aW_P, aW_w, abs_eq, O_asti_eq, v170, cl_eq, ST_id, MT_gs, ST_gs, PT_gs, ZT_gs, NT_gs, ET_gs, se_X7_isPump, se_X7_in, se_X7_of, sea_X7_save, se_X7_serves, bI_eq, inL_lit, v8_eq, get_eq, c1, c2, c3, hv, ho, hs, hi, hb])
        ((repeat' (with_reducible first | apply And.intro | intro _)) <;> first | (with_reducible assumption) | (with_reducible exact Nat.zero_le _) | contradiction | (simp only [Option.toList_none, Option.toList_some] at hr; with_reducible assumption) | (simp_all; done) | assumption)
    · have c2 := bnot c2
      have hc : okServ7 S p is = false := by unfold okServ7; rw [c1, c2]; rfl
      rw [if_pos hc, if_neg (fun z => by rw [hc] at z; cases z.1)] at hr
      (refine nx_ok C (cuts := cut_X7_service) 1000 _ _ _ _ ?_; simp only [w_X7_service, ops_eq, xst_eq, call_eq, oK_eq, Option.toList_some, Option.toList_none, List.cons_append, List.nil_append, List.length_cons, List.length_nil, true_and, and_true, Nat.reduceAdd, aW_F, aW_A, aW_P, aW_w, abs_eq, O_asti_eq, v170, cl_eq, ST_id, MT_gs, ST_gs, PT_gs, ZT_gs, NT_gs, ET_gs, se_X7_isPump, se_X7_in, se_X7_of, sea_X7_save, se_X7_serves, bI_eq, inL_lit, c1, c2, ho])
      ((repeat' (with_reducible first | apply And.intro | intro _)) <;> first | (with_reducible assumption) | (with_reducible exact Nat.zero_le _) | contradiction | (simp only [Option.toList_none, Option.toList_some] at hr; with_reducible assumption) | (simp_all; done) | assumption)
  · have c1 := bnot c1
    have hc : okServ7 S p is = false := by unfold okServ7; rw [c1]; rfl
    rw [if_pos hc, if_neg (fun z => by rw [hc] at z; cases z.1)] at hr
    (refine nx_ok C (cuts := cut_X7_service) 1000 _ _ _ _ ?_; simp only [w_X7_service, ops_eq, xst_eq, call_eq, oK_eq, Option.toList_some, Option.toList_none, List.cons_append, List.nil_append, List.length_cons, List.length_nil, true_and, and_true, Nat.reduceAdd, aW_F, aW_A, aW_P, aW_w, abs_eq, O_asti_eq, v170, cl_eq, ST_id, MT_gs, ST_gs, PT_gs, ZT_gs, NT_gs, ET_gs, se_X7_isPump, se_X7_in, se_X7_of, sea_X7_save, se_X7_serves, bI_eq, inL_lit, c1, ho])
    ((repeat' (with_reducible first | apply And.intro | intro _)) <;> first | (with_reducible assumption) | (with_reducible exact Nat.zero_le _) | contradiction | (simp only [Option.toList_none, Option.toList_some] at hr; with_reducible assumption) | (simp_all; done) | assumption)
def spc_X7_service (S : ST) (M : MT) (fl : Bool) (p : Int32) (is : Int32) (K : Option Value → QT → Prop) : Prop := (S.inv 1 ∧ isN M.savedMany M.k 4) ∧ K (some (.int (if okServ7 S p is = false then -1000001 else if S.P.inService p.toNatClampNeg = is then -1000002 else bI (decide (is = 0) && S.P.runs p)))) ((if okServ7 S p is = true ∧ ¬ S.P.inService p.toNatClampNeg = is then (S.change p is, servM S M fl p is, fl) else (S, M, fl)))
def sp_X7_service : Sp QT := fun av q K => match av with
  | [.ref 0, .int p, .int is] => spc_X7_service q.1 q.2.1 q.2.2 p is K
  | _ => False
theorem se_X7_service (S : ST) (M : MT) (fl : Bool) (p : Int32) (is : Int32) (K : Option Value → QT → Prop) : sp_X7_service [.ref 0, .int p, .int is] (S, M, fl) K = ((S.inv 1 ∧ isN M.savedMany M.k 4) ∧ K (some (.int (if okServ7 S p is = false then -1000001 else if S.P.inService p.toNatClampNeg = is then -1000002 else bI (decide (is = 0) && S.P.runs p)))) ((if okServ7 S p is = true ∧ ¬ S.P.inService p.toNatClampNeg = is then (S.change p is, servM S M fl p is, fl) else (S, M, fl)))) := rfl
theorem spok_X7_service : SpOk yX7_service cX7_service 3 (some .int) 5 aW sp_X7_service := by
  intro av q K h
  unfold sp_X7_service at h
  split at h
  · rename_i p is; refine ⟨_, _, ?_, con_X7_service q.1 q.2.1 q.2.2 p is h.1, h.2⟩; trivial
  · exact h.elim
def cod_X7_zone : List (Nat × Op QT) := [(0, O_iload 1 1), (1, O_i2l), (2, O_long 1 1), (3, O_long 1000 3), (6, O_callS 3 sp_X7_in), (9, O_if_ne 15), (12, O_int (-1000001) 2), (14, O_iret), (15, O_aload 0 1), (16, O_getf aW 7 0), (19, O_int 15 2), (21, O_ald aW 0), (22, O_int 8 2), (24, O_icmp_ne 30), (27, O_int (-1000003) 2), (29, O_iret), (30, O_aload 0 1), (31, O_callV 0 0 (fun S => S) (fun _ S' => S') spa_X7_save), (34, O_aload 0 1), (35, O_getf aW 7 0), (38, O_int 15 2), (40, O_ald aW 0), (41, O_istore 2 1), (42, O_aload 0 1), (43, O_getf aW 7 0), (46, O_int 87 2), (48, O_int 2 1), (49, O_iload 2 1), (50, O_imul), (51, O_iadd), (52, O_iload 1 1), (53, O_asti aW aW_wi), (54, O_aload 0 1), (55, O_getf aW 7 0), (58, O_int 87 2), (60, O_int 2 1), (61, O_iload 2 1), (62, O_imul), (63, O_iadd), (64, O_int 1 1), (65, O_iadd), (66, O_int 0 1), (67, O_asti aW aW_wi), (68, O_aload 0 1), (69, O_getf aW 7 0), (72, O_int 15 2), (74, O_dup2), (75, O_ald aW 0), (76, O_int 1 1), (77, O_iadd), (78, O_asti aW aW_wi), (79, O_iload 2 1), (80, O_iret)]
abbrev cut_X7_zone : List Nat := []
set_option maxRecDepth 100000 in
theorem okc_X7_zone {E : En} (F : Fx E RX7 cX7_zone 3 1) (G : Fr E (some .int)) : CodOk E aW cod_X7_zone := by
  unfold CodOk cod_X7_zone
  refine List.forall_mem_cons.mpr ⟨ok_iload_n F dX7_zone_0 rfl (by decide), ?_⟩
  refine List.forall_mem_cons.mpr ⟨ok_i2l F dX7_zone_1 (by decide), ?_⟩
  refine List.forall_mem_cons.mpr ⟨ok_lconst F dX7_zone_2 (by decide) (by decide), ?_⟩
  refine List.forall_mem_cons.mpr ⟨ok_ldc2 F (ix := 40) (wsHas_mem (l := [Jvm.Cond.constantLong RX7 40 1000]) (by decide +kernel) (by simp)) dX7_zone_3 (by decide), ?_⟩
  refine List.forall_mem_cons.mpr ⟨ok_callS F spok_X7_in (by decide +kernel) rfl (by decide) dX7_zone_6 (by decide), ?_⟩
  refine List.forall_mem_cons.mpr ⟨ok_if_ne F dX7_zone_9 (by decide) (by decide) (by decide), ?_⟩
  refine List.forall_mem_cons.mpr ⟨ok_ldc F (ix := 62) (wsHas_mem (l := [Jvm.Cond.constant RX7 62 (-1000001)]) (by decide +kernel) (by simp)) dX7_zone_12 (by decide), ?_⟩
  refine List.forall_mem_cons.mpr ⟨ok_iret F G dX7_zone_14 (by decide), ?_⟩
  refine List.forall_mem_cons.mpr ⟨ok_aload_n F dX7_zone_15 rfl (by decide), ?_⟩
  refine List.forall_mem_cons.mpr ⟨ok_getf F flX7_7 dX7_zone_16 (by decide), ?_⟩
  refine List.forall_mem_cons.mpr ⟨ok_bipush F dX7_zone_19 (by decide) (by decide), ?_⟩
  refine List.forall_mem_cons.mpr ⟨ok_iald F dX7_zone_21 (by decide), ?_⟩
  refine List.forall_mem_cons.mpr ⟨ok_bipush F dX7_zone_22 (by decide) (by decide), ?_⟩
  refine List.forall_mem_cons.mpr ⟨ok_icmp_ne F dX7_zone_24 (by decide) (by decide) (by decide), ?_⟩
  refine List.forall_mem_cons.mpr ⟨ok_ldc F (ix := 73) (wsHas_mem (l := [Jvm.Cond.constant RX7 73 (-1000003)]) (by decide +kernel) (by simp)) dX7_zone_27 (by decide), ?_⟩
  refine List.forall_mem_cons.mpr ⟨ok_iret F G dX7_zone_29 (by decide), ?_⟩
  refine List.forall_mem_cons.mpr ⟨ok_aload_n F dX7_zone_30 rfl (by decide), ?_⟩
  refine List.forall_mem_cons.mpr ⟨ok_callV F spoka_X7_save (ln_id aW) rcv_aW (by decide +kernel) (by decide) dX7_zone_31 (by decide), ?_⟩
  refine List.forall_mem_cons.mpr ⟨ok_aload_n F dX7_zone_34 rfl (by decide), ?_⟩
  refine List.forall_mem_cons.mpr ⟨ok_getf F flX7_7 dX7_zone_35 (by decide), ?_⟩
  refine List.forall_mem_cons.mpr ⟨ok_bipush F dX7_zone_38 (by decide) (by decide), ?_⟩
  refine List.forall_mem_cons.mpr ⟨ok_iald F dX7_zone_40 (by decide), ?_⟩
  refine List.forall_mem_cons.mpr ⟨ok_istore_n F dX7_zone_41 rfl (by decide) (by decide), ?_⟩
  refine List.forall_mem_cons.mpr ⟨ok_aload_n F dX7_zone_42 rfl (by decide), ?_⟩
  refine List.forall_mem_cons.mpr ⟨ok_getf F flX7_7 dX7_zone_43 (by decide), ?_⟩
  refine List.forall_mem_cons.mpr ⟨ok_bipush F dX7_zone_46 (by decide) (by decide), ?_⟩
  refine List.forall_mem_cons.mpr ⟨ok_iconst F dX7_zone_48 (by decide) (by decide), ?_⟩
  refine List.forall_mem_cons.mpr ⟨ok_iload_n F dX7_zone_49 rfl (by decide), ?_⟩
  refine List.forall_mem_cons.mpr ⟨ok_imul F dX7_zone_50 (by decide), ?_⟩
  refine List.forall_mem_cons.mpr ⟨ok_iadd F dX7_zone_51 (by decide), ?_⟩
  refine List.forall_mem_cons.mpr ⟨ok_iload_n F dX7_zone_52 rfl (by decide), ?_⟩
  refine List.forall_mem_cons.mpr ⟨ok_asti F aW_wok dX7_zone_53 (by decide), ?_⟩
  refine List.forall_mem_cons.mpr ⟨ok_aload_n F dX7_zone_54 rfl (by decide), ?_⟩
  refine List.forall_mem_cons.mpr ⟨ok_getf F flX7_7 dX7_zone_55 (by decide), ?_⟩
  refine List.forall_mem_cons.mpr ⟨ok_bipush F dX7_zone_58 (by decide) (by decide), ?_⟩
  refine List.forall_mem_cons.mpr ⟨ok_iconst F dX7_zone_60 (by decide) (by decide), ?_⟩
  refine List.forall_mem_cons.mpr ⟨ok_iload_n F dX7_zone_61 rfl (by decide), ?_⟩
  refine List.forall_mem_cons.mpr ⟨ok_imul F dX7_zone_62 (by decide), ?_⟩
  refine List.forall_mem_cons.mpr ⟨ok_iadd F dX7_zone_63 (by decide), ?_⟩
  refine List.forall_mem_cons.mpr ⟨ok_iconst F dX7_zone_64 (by decide) (by decide), ?_⟩
  refine List.forall_mem_cons.mpr ⟨ok_iadd F dX7_zone_65 (by decide), ?_⟩
  refine List.forall_mem_cons.mpr ⟨ok_iconst F dX7_zone_66 (by decide) (by decide), ?_⟩
  refine List.forall_mem_cons.mpr ⟨ok_asti F aW_wok dX7_zone_67 (by decide), ?_⟩
  refine List.forall_mem_cons.mpr ⟨ok_aload_n F dX7_zone_68 rfl (by decide), ?_⟩
  refine List.forall_mem_cons.mpr ⟨ok_getf F flX7_7 dX7_zone_69 (by decide), ?_⟩
  refine List.forall_mem_cons.mpr ⟨ok_bipush F dX7_zone_72 (by decide) (by decide), ?_⟩
  refine List.forall_mem_cons.mpr ⟨ok_dup2 F dX7_zone_74 (by decide), ?_⟩
  refine List.forall_mem_cons.mpr ⟨ok_iald F dX7_zone_75 (by decide), ?_⟩
  refine List.forall_mem_cons.mpr ⟨ok_iconst F dX7_zone_76 (by decide) (by decide), ?_⟩
  refine List.forall_mem_cons.mpr ⟨ok_iadd F dX7_zone_77 (by decide), ?_⟩
  refine List.forall_mem_cons.mpr ⟨ok_asti F aW_wok dX7_zone_78 (by decide), ?_⟩
  refine List.forall_mem_cons.mpr ⟨ok_iload_n F dX7_zone_79 rfl (by decide), ?_⟩
  refine List.forall_mem_cons.mpr ⟨ok_iret F G dX7_zone_80 (by decide), ?_⟩
  exact fun _ h => absurd h List.not_mem_nil
set_option maxRecDepth 100000 in
theorem w_X7_zone : (∀ (K : Kt QT) (n : Nat) (L : xL) (st : List Value) (S : QT), nx cod_X7_zone cut_X7_zone K (n + 1) 0 L st S = (O_iload 1 1) (nx cod_X7_zone cut_X7_zone K n) 0 L st S) ∧
  (∀ (K : Kt QT) (n : Nat) (L : xL) (st : List Value) (S : QT), nx cod_X7_zone cut_X7_zone K (n + 1) 1 L st S = (O_i2l) (nx cod_X7_zone cut_X7_zone K n) 1 L st S) ∧
  (∀ (K : Kt QT) (n : Nat) (L : xL) (st : List Value) (S : QT), nx cod_X7_zone cut_X7_zone K (n + 1) 2 L st S = (O_long 1 1) (nx cod_X7_zone cut_X7_zone K n) 2 L st S) ∧
  (∀ (K : Kt QT) (n : Nat) (L : xL) (st : List Value) (S : QT), nx cod_X7_zone cut_X7_zone K (n + 1) 3 L st S = (O_long 1000 3) (nx cod_X7_zone cut_X7_zone K n) 3 L st S) ∧
  (∀ (K : Kt QT) (n : Nat) (L : xL) (st : List Value) (S : QT), nx cod_X7_zone cut_X7_zone K (n + 1) 6 L st S = (O_callS 3 sp_X7_in) (nx cod_X7_zone cut_X7_zone K n) 6 L st S) ∧
  (∀ (K : Kt QT) (n : Nat) (L : xL) (st : List Value) (S : QT), nx cod_X7_zone cut_X7_zone K (n + 1) 9 L st S = (O_if_ne 15) (nx cod_X7_zone cut_X7_zone K n) 9 L st S) ∧
  (∀ (K : Kt QT) (n : Nat) (L : xL) (st : List Value) (S : QT), nx cod_X7_zone cut_X7_zone K (n + 1) 12 L st S = (O_int (-1000001) 2) (nx cod_X7_zone cut_X7_zone K n) 12 L st S) ∧
  (∀ (K : Kt QT) (n : Nat) (L : xL) (st : List Value) (S : QT), nx cod_X7_zone cut_X7_zone K (n + 1) 14 L st S = (O_iret) (nx cod_X7_zone cut_X7_zone K n) 14 L st S) ∧
  (∀ (K : Kt QT) (n : Nat) (L : xL) (st : List Value) (S : QT), nx cod_X7_zone cut_X7_zone K (n + 1) 15 L st S = (O_aload 0 1) (nx cod_X7_zone cut_X7_zone K n) 15 L st S) ∧
  (∀ (K : Kt QT) (n : Nat) (L : xL) (st : List Value) (S : QT), nx cod_X7_zone cut_X7_zone K (n + 1) 16 L st S = (O_getf aW 7 0) (nx cod_X7_zone cut_X7_zone K n) 16 L st S) ∧
  (∀ (K : Kt QT) (n : Nat) (L : xL) (st : List Value) (S : QT), nx cod_X7_zone cut_X7_zone K (n + 1) 19 L st S = (O_int 15 2) (nx cod_X7_zone cut_X7_zone K n) 19 L st S) ∧
  (∀ (K : Kt QT) (n : Nat) (L : xL) (st : List Value) (S : QT), nx cod_X7_zone cut_X7_zone K (n + 1) 21 L st S = (O_ald aW 0) (nx cod_X7_zone cut_X7_zone K n) 21 L st S) ∧
  (∀ (K : Kt QT) (n : Nat) (L : xL) (st : List Value) (S : QT), nx cod_X7_zone cut_X7_zone K (n + 1) 22 L st S = (O_int 8 2) (nx cod_X7_zone cut_X7_zone K n) 22 L st S) ∧
  (∀ (K : Kt QT) (n : Nat) (L : xL) (st : List Value) (S : QT), nx cod_X7_zone cut_X7_zone K (n + 1) 24 L st S = (O_icmp_ne 30) (nx cod_X7_zone cut_X7_zone K n) 24 L st S) ∧
  (∀ (K : Kt QT) (n : Nat) (L : xL) (st : List Value) (S : QT), nx cod_X7_zone cut_X7_zone K (n + 1) 27 L st S = (O_int (-1000003) 2) (nx cod_X7_zone cut_X7_zone K n) 27 L st S) ∧
  (∀ (K : Kt QT) (n : Nat) (L : xL) (st : List Value) (S : QT), nx cod_X7_zone cut_X7_zone K (n + 1) 29 L st S = (O_iret) (nx cod_X7_zone cut_X7_zone K n) 29 L st S) ∧
  (∀ (K : Kt QT) (n : Nat) (L : xL) (st : List Value) (S : QT), nx cod_X7_zone cut_X7_zone K (n + 1) 30 L st S = (O_aload 0 1) (nx cod_X7_zone cut_X7_zone K n) 30 L st S) ∧
  (∀ (K : Kt QT) (n : Nat) (L : xL) (st : List Value) (S : QT), nx cod_X7_zone cut_X7_zone K (n + 1) 31 L st S = (O_callV 0 0 (fun S => S) (fun _ S' => S') spa_X7_save) (nx cod_X7_zone cut_X7_zone K n) 31 L st S) ∧
  (∀ (K : Kt QT) (n : Nat) (L : xL) (st : List Value) (S : QT), nx cod_X7_zone cut_X7_zone K (n + 1) 34 L st S = (O_aload 0 1) (nx cod_X7_zone cut_X7_zone K n) 34 L st S) ∧
  (∀ (K : Kt QT) (n : Nat) (L : xL) (st : List Value) (S : QT), nx cod_X7_zone cut_X7_zone K (n + 1) 35 L st S = (O_getf aW 7 0) (nx cod_X7_zone cut_X7_zone K n) 35 L st S) ∧
  (∀ (K : Kt QT) (n : Nat) (L : xL) (st : List Value) (S : QT), nx cod_X7_zone cut_X7_zone K (n + 1) 38 L st S = (O_int 15 2) (nx cod_X7_zone cut_X7_zone K n) 38 L st S) ∧
  (∀ (K : Kt QT) (n : Nat) (L : xL) (st : List Value) (S : QT), nx cod_X7_zone cut_X7_zone K (n + 1) 40 L st S = (O_ald aW 0) (nx cod_X7_zone cut_X7_zone K n) 40 L st S) ∧
  (∀ (K : Kt QT) (n : Nat) (L : xL) (st : List Value) (S : QT), nx cod_X7_zone cut_X7_zone K (n + 1) 41 L st S = (O_istore 2 1) (nx cod_X7_zone cut_X7_zone K n) 41 L st S) ∧
  (∀ (K : Kt QT) (n : Nat) (L : xL) (st : List Value) (S : QT), nx cod_X7_zone cut_X7_zone K (n + 1) 42 L st S = (O_aload 0 1) (nx cod_X7_zone cut_X7_zone K n) 42 L st S) ∧
  (∀ (K : Kt QT) (n : Nat) (L : xL) (st : List Value) (S : QT), nx cod_X7_zone cut_X7_zone K (n + 1) 43 L st S = (O_getf aW 7 0) (nx cod_X7_zone cut_X7_zone K n) 43 L st S) ∧
  (∀ (K : Kt QT) (n : Nat) (L : xL) (st : List Value) (S : QT), nx cod_X7_zone cut_X7_zone K (n + 1) 46 L st S = (O_int 87 2) (nx cod_X7_zone cut_X7_zone K n) 46 L st S) ∧
  (∀ (K : Kt QT) (n : Nat) (L : xL) (st : List Value) (S : QT), nx cod_X7_zone cut_X7_zone K (n + 1) 48 L st S = (O_int 2 1) (nx cod_X7_zone cut_X7_zone K n) 48 L st S) ∧
  (∀ (K : Kt QT) (n : Nat) (L : xL) (st : List Value) (S : QT), nx cod_X7_zone cut_X7_zone K (n + 1) 49 L st S = (O_iload 2 1) (nx cod_X7_zone cut_X7_zone K n) 49 L st S) ∧
  (∀ (K : Kt QT) (n : Nat) (L : xL) (st : List Value) (S : QT), nx cod_X7_zone cut_X7_zone K (n + 1) 50 L st S = (O_imul) (nx cod_X7_zone cut_X7_zone K n) 50 L st S) ∧
  (∀ (K : Kt QT) (n : Nat) (L : xL) (st : List Value) (S : QT), nx cod_X7_zone cut_X7_zone K (n + 1) 51 L st S = (O_iadd) (nx cod_X7_zone cut_X7_zone K n) 51 L st S) ∧
  (∀ (K : Kt QT) (n : Nat) (L : xL) (st : List Value) (S : QT), nx cod_X7_zone cut_X7_zone K (n + 1) 52 L st S = (O_iload 1 1) (nx cod_X7_zone cut_X7_zone K n) 52 L st S) ∧
  (∀ (K : Kt QT) (n : Nat) (L : xL) (st : List Value) (S : QT), nx cod_X7_zone cut_X7_zone K (n + 1) 53 L st S = (O_asti aW aW_wi) (nx cod_X7_zone cut_X7_zone K n) 53 L st S) ∧
  (∀ (K : Kt QT) (n : Nat) (L : xL) (st : List Value) (S : QT), nx cod_X7_zone cut_X7_zone K (n + 1) 54 L st S = (O_aload 0 1) (nx cod_X7_zone cut_X7_zone K n) 54 L st S) ∧
  (∀ (K : Kt QT) (n : Nat) (L : xL) (st : List Value) (S : QT), nx cod_X7_zone cut_X7_zone K (n + 1) 55 L st S = (O_getf aW 7 0) (nx cod_X7_zone cut_X7_zone K n) 55 L st S) ∧
  (∀ (K : Kt QT) (n : Nat) (L : xL) (st : List Value) (S : QT), nx cod_X7_zone cut_X7_zone K (n + 1) 58 L st S = (O_int 87 2) (nx cod_X7_zone cut_X7_zone K n) 58 L st S) ∧
  (∀ (K : Kt QT) (n : Nat) (L : xL) (st : List Value) (S : QT), nx cod_X7_zone cut_X7_zone K (n + 1) 60 L st S = (O_int 2 1) (nx cod_X7_zone cut_X7_zone K n) 60 L st S) ∧
  (∀ (K : Kt QT) (n : Nat) (L : xL) (st : List Value) (S : QT), nx cod_X7_zone cut_X7_zone K (n + 1) 61 L st S = (O_iload 2 1) (nx cod_X7_zone cut_X7_zone K n) 61 L st S) ∧
  (∀ (K : Kt QT) (n : Nat) (L : xL) (st : List Value) (S : QT), nx cod_X7_zone cut_X7_zone K (n + 1) 62 L st S = (O_imul) (nx cod_X7_zone cut_X7_zone K n) 62 L st S) ∧
  (∀ (K : Kt QT) (n : Nat) (L : xL) (st : List Value) (S : QT), nx cod_X7_zone cut_X7_zone K (n + 1) 63 L st S = (O_iadd) (nx cod_X7_zone cut_X7_zone K n) 63 L st S) ∧
  (∀ (K : Kt QT) (n : Nat) (L : xL) (st : List Value) (S : QT), nx cod_X7_zone cut_X7_zone K (n + 1) 64 L st S = (O_int 1 1) (nx cod_X7_zone cut_X7_zone K n) 64 L st S) ∧
  (∀ (K : Kt QT) (n : Nat) (L : xL) (st : List Value) (S : QT), nx cod_X7_zone cut_X7_zone K (n + 1) 65 L st S = (O_iadd) (nx cod_X7_zone cut_X7_zone K n) 65 L st S) ∧
  (∀ (K : Kt QT) (n : Nat) (L : xL) (st : List Value) (S : QT), nx cod_X7_zone cut_X7_zone K (n + 1) 66 L st S = (O_int 0 1) (nx cod_X7_zone cut_X7_zone K n) 66 L st S) ∧
  (∀ (K : Kt QT) (n : Nat) (L : xL) (st : List Value) (S : QT), nx cod_X7_zone cut_X7_zone K (n + 1) 67 L st S = (O_asti aW aW_wi) (nx cod_X7_zone cut_X7_zone K n) 67 L st S) ∧
  (∀ (K : Kt QT) (n : Nat) (L : xL) (st : List Value) (S : QT), nx cod_X7_zone cut_X7_zone K (n + 1) 68 L st S = (O_aload 0 1) (nx cod_X7_zone cut_X7_zone K n) 68 L st S) ∧
  (∀ (K : Kt QT) (n : Nat) (L : xL) (st : List Value) (S : QT), nx cod_X7_zone cut_X7_zone K (n + 1) 69 L st S = (O_getf aW 7 0) (nx cod_X7_zone cut_X7_zone K n) 69 L st S) ∧
  (∀ (K : Kt QT) (n : Nat) (L : xL) (st : List Value) (S : QT), nx cod_X7_zone cut_X7_zone K (n + 1) 72 L st S = (O_int 15 2) (nx cod_X7_zone cut_X7_zone K n) 72 L st S) ∧
  (∀ (K : Kt QT) (n : Nat) (L : xL) (st : List Value) (S : QT), nx cod_X7_zone cut_X7_zone K (n + 1) 74 L st S = (O_dup2) (nx cod_X7_zone cut_X7_zone K n) 74 L st S) ∧
  (∀ (K : Kt QT) (n : Nat) (L : xL) (st : List Value) (S : QT), nx cod_X7_zone cut_X7_zone K (n + 1) 75 L st S = (O_ald aW 0) (nx cod_X7_zone cut_X7_zone K n) 75 L st S) ∧
  (∀ (K : Kt QT) (n : Nat) (L : xL) (st : List Value) (S : QT), nx cod_X7_zone cut_X7_zone K (n + 1) 76 L st S = (O_int 1 1) (nx cod_X7_zone cut_X7_zone K n) 76 L st S) ∧
  (∀ (K : Kt QT) (n : Nat) (L : xL) (st : List Value) (S : QT), nx cod_X7_zone cut_X7_zone K (n + 1) 77 L st S = (O_iadd) (nx cod_X7_zone cut_X7_zone K n) 77 L st S) ∧
  (∀ (K : Kt QT) (n : Nat) (L : xL) (st : List Value) (S : QT), nx cod_X7_zone cut_X7_zone K (n + 1) 78 L st S = (O_asti aW aW_wi) (nx cod_X7_zone cut_X7_zone K n) 78 L st S) ∧
  (∀ (K : Kt QT) (n : Nat) (L : xL) (st : List Value) (S : QT), nx cod_X7_zone cut_X7_zone K (n + 1) 79 L st S = (O_iload 2 1) (nx cod_X7_zone cut_X7_zone K n) 79 L st S) ∧
  (∀ (K : Kt QT) (n : Nat) (L : xL) (st : List Value) (S : QT), nx cod_X7_zone cut_X7_zone K (n + 1) 80 L st S = (O_iret) (nx cod_X7_zone cut_X7_zone K n) 80 L st S) ∧
  (∀ (K : Kt QT) (n : Nat) (L : xL) (st : List Value) (S : QT), nx cod_X7_zone cut_X7_zone K (n + 1) 100000 L st S = K 100000 L st S) := by
  repeat' apply And.intro
  all_goals (intros; rfl)
set_option maxRecDepth 100000 in
theorem mk_X7_zone {P P' : QT} {r : Option Value} {p0 : Int32} (body : ∀ E : En, CodOk E aW cod_X7_zone → Gd E aW 100000 [] r.toList P' → Gd E aW 0 [some (.ref 0), some (.int p0), none] [] P) : Con yX7_zone cX7_zone 3 (some .int) 1 aW [.ref 0, .int p0] P r P' :=
  Con.of (by decide) ((aW_len P').trans (aW_len P).symm) rfl (Nat.le_of_ble_eq_true rfl) (fun E F G hr => body E (okc_X7_zone F G) hr)
set_option maxRecDepth 10000 in
theorem con_X7_zone (S : ST) (M : MT) (fl : Bool) (d : Int32) (hp : S.inv 1 ∧ isN M.savedMany M.k 4) : Con yX7_zone cX7_zone 3 (some .int) 1 aW [.ref 0, .int d] (S, M, fl) (some (.int (if inR d 1 1000 = false then -1000001 else if S.Z.size < 8 then S.Z.size else -1000003))) ((if inR d 1 1000 = true ∧ S.Z.size < 8 then (S.sZ (S.Z.add d), M.saveA S, fl) else (S, M, fl))) := by
  refine mk_X7_zone (fun E C hr => ?_)
  obtain ⟨hi, hs⟩ := hp
  obtain ⟨o1, o2, o3⟩ := hi.2.1.1.1
  have h8 : (S.Z.size = 8) ↔ ¬ S.Z.size < 8 := by
    rw [o1, show (8 : Int32) = nI 8 from rfl, nI_eq (by omega) (by omega), nI_ltI (by omega) (by omega)]
    omega
  by_cases c1 : inR d 1 1000 = true
  · rw [if_neg (by rw [c1]; decide)] at hr
    by_cases c4 : S.Z.size < 8
    · rw [if_pos c4, if_pos ⟨c1, c4⟩] at hr
      have hn : S.Z.n < 8 := by
        rw [o1, show (8 : Int32) = nI 8 from rfl, nI_ltI (by omega) (by omega)] at c4
        exact c4
      have c5 : ¬ S.Z.size = 8 := fun z => (h8.mp z) c4
      have hv : vp_in S.Z.size 8 := by rw [o1]; exact vp_in_nI hn (by omega)
      obtain ⟨i, hi8, ez, e1, e2, e3, e4, e5⟩ := at_zone hv
      have hin : i = S.Z.n := by
        rw [o1, nI_eq (by omega) (by omega)] at ez
        exact ez.symm
      have hz := hi.2.1.2.2.1 S.Z.n (Nat.le_refl _) hn
      subst hin
      have w1 := fun x => sn_wr S (M.saveA S) fl (87 + 2 * S.Z.n) x (by omega) (by omega) (by omega)
      have w2 := fun x => sn_wr (S.sZ (S.Z.sDemands (upd S.Z.demands S.Z.n d))) (M.saveA S) fl (87 + 2 * S.Z.n + 1) x (by omega) (by omega) (by omega)
      simp only [wr_zone S hi8] at w1
      simp only [wr_zone (S.sZ (S.Z.sDemands (upd S.Z.demands S.Z.n d))) hi8, ST_gs, ZT_gs] at w2
      have eo : upd S.Z.isOpen S.Z.n 0 = S.Z.isOpen := by
        conv => lhs; rw [← hz.2]
        exact upd_id _ _
      have e : S.Z.add d = (((S.Z.sDemands (upd S.Z.demands S.Z.n d)).sIsOpen (upd S.Z.isOpen S.Z.n 0)).sSize (S.Z.size + 1)) := by rw [eo]; rfl
      rw [e] at hr
      clear e eo h8 o1 ez e1 hz hi
      (refine nx_ok C (cuts := cut_X7_zone) 1000 _ _ _ _ ?_; simp only [w_X7_zone, ops_eq, xst_eq, call_eq, oK_eq, Option.toList_some, Option.toList_none, List.cons_append, List.nil_append, List.length_cons, List.length_nil, true_and, and_true, Nat.reduceAdd, aW_F, aW_A, aW_P, aW_w, abs_eq, O_asti_eq, v170, cl_eq, ST_id, MT_gs, ST_gs, PT_gs, ZT_gs, NT_gs, ET_gs, se_X7_in, sea_X7_save, bI_eq, inL_lit, c1, c5, hs, hv, e2, e3, e4, e5, w1, w2])
      ((repeat' (with_reducible first | apply And.intro | intro _)) <;> first | (with_reducible assumption) | (with_reducible exact Nat.zero_le _) | contradiction | (simp only [Option.toList_none, Option.toList_some] at hr; with_reducible assumption) | (simp_all; done) | assumption)
    · have c5 := h8.mpr c4
      rw [if_neg c4, if_neg (fun z => c4 z.2)] at hr
      (refine nx_ok C (cuts := cut_X7_zone) 1000 _ _ _ _ ?_; simp only [w_X7_zone, ops_eq, xst_eq, call_eq, oK_eq, Option.toList_some, Option.toList_none, List.cons_append, List.nil_append, List.length_cons, List.length_nil, true_and, and_true, Nat.reduceAdd, aW_F, aW_A, aW_P, aW_w, abs_eq, O_asti_eq, v170, cl_eq, ST_id, MT_gs, ST_gs, PT_gs, ZT_gs, NT_gs, ET_gs, se_X7_in, sea_X7_save, bI_eq, inL_lit, c1, c5])
      ((repeat' (with_reducible first | apply And.intro | intro _)) <;> first | (with_reducible assumption) | (with_reducible exact Nat.zero_le _) | contradiction | (simp only [Option.toList_none, Option.toList_some] at hr; with_reducible assumption) | (simp_all; done) | assumption)
  · have c1 := bnot c1
    rw [if_pos c1, if_neg (fun z => by rw [c1] at z; cases z.1)] at hr
    (refine nx_ok C (cuts := cut_X7_zone) 1000 _ _ _ _ ?_; simp only [w_X7_zone, ops_eq, xst_eq, call_eq, oK_eq, Option.toList_some, Option.toList_none, List.cons_append, List.nil_append, List.length_cons, List.length_nil, true_and, and_true, Nat.reduceAdd, aW_F, aW_A, aW_P, aW_w, abs_eq, O_asti_eq, v170, cl_eq, ST_id, MT_gs, ST_gs, PT_gs, ZT_gs, NT_gs, ET_gs, se_X7_in, sea_X7_save, bI_eq, inL_lit, c1])
    ((repeat' (with_reducible first | apply And.intro | intro _)) <;> first | (with_reducible assumption) | (with_reducible exact Nat.zero_le _) | contradiction | (simp only [Option.toList_none, Option.toList_some] at hr; with_reducible assumption) | (simp_all; done) | assumption)
def spc_X7_zone (S : ST) (M : MT) (fl : Bool) (d : Int32) (K : Option Value → QT → Prop) : Prop := (S.inv 1 ∧ isN M.savedMany M.k 4) ∧ K (some (.int (if inR d 1 1000 = false then -1000001 else if S.Z.size < 8 then S.Z.size else -1000003))) ((if inR d 1 1000 = true ∧ S.Z.size < 8 then (S.sZ (S.Z.add d), M.saveA S, fl) else (S, M, fl)))
def sp_X7_zone : Sp QT := fun av q K => match av with
  | [.ref 0, .int d] => spc_X7_zone q.1 q.2.1 q.2.2 d K
  | _ => False
theorem se_X7_zone (S : ST) (M : MT) (fl : Bool) (d : Int32) (K : Option Value → QT → Prop) : sp_X7_zone [.ref 0, .int d] (S, M, fl) K = ((S.inv 1 ∧ isN M.savedMany M.k 4) ∧ K (some (.int (if inR d 1 1000 = false then -1000001 else if S.Z.size < 8 then S.Z.size else -1000003))) ((if inR d 1 1000 = true ∧ S.Z.size < 8 then (S.sZ (S.Z.add d), M.saveA S, fl) else (S, M, fl)))) := rfl
theorem spok_X7_zone : SpOk yX7_zone cX7_zone 3 (some .int) 1 aW sp_X7_zone := by
  intro av q K h
  unfold sp_X7_zone at h
  split at h
  · rename_i d; refine ⟨_, _, ?_, con_X7_zone q.1 q.2.1 q.2.2 d h.1, h.2⟩; trivial
  · exact h.elim
