/-! ===== FieldPumps: passing, foreseeing, orders ===== -/
theorem ST.mins_succ (S : ST) (k : Nat) : S.mins (k + 1) = (S.mins k).minute := by
  unfold ST.mins
  rw [it]
/-- a count that a loop runs to -/
theorem lps {m : Int32} {i n : Nat} (e : m = nI n) (hn : n < 100000) (h : i < n) : nI i < m ∧ nI i + 1 = nI (i + 1) := by
  subst e
  exact ⟨nI_lt h (by omega), nI_1 i⟩
theorem lpe {m : Int32} {n : Nat} (e : m = nI n) (hn : n < 100000) : ¬ nI n < m := by
  subst e
  exact nI_nlt (Nat.le_refl n) (by omega)
theorem inR_n {m a b : Int32} (h : inR m a b = true) (ha : ¬ a < 0) (hb : b.toInt < 100000) : m = nI m.toNatClampNeg ∧ m.toNatClampNeg < 100000 := by
  simp only [inR, decide_eq_true_eq] at h
  obtain ⟨h1, h2⟩ := h
  rw [Int32.lt_iff_toInt_lt] at ha h1 h2
  have ez : (0 : Int32).toInt = 0 := rfl
  have e : m.toNatClampNeg = m.toInt.toNat := rfl
  refine ⟨Int32.toInt_inj.mp ?_, by omega⟩
  rw [nI_toInt (by omega)]
  omega
def cod_X6_pass : List (Nat × Op FT) := [(0, O_iload 1 1), (1, O_int 1 1), (2, O_int 240 3), (5, O_callS 3 sp_X6_within), (8, O_if_ne 14), (11, O_int (-1000001) 2), (13, O_iret), (14, O_aload 0 1), (15, O_getf fpW 6 0), (18, O_getf fpW 4 5), (21, O_iload 1 1), (22, O_iadd), (23, O_int 20000 3), (26, O_icmp_le 32), (29, O_int (-1000003) 2), (31, O_iret), (32, O_aload 0 1), (33, O_callV 0 0 (fun S => S) (fun _ S' => S') sp_X6_remember), (36, O_int 0 1), (37, O_istore 2 1), (38, O_iload 2 1), (39, O_iload 1 1), (40, O_icmp_ge 56), (43, O_aload 0 1), (44, O_getf fpW 6 0), (47, O_callV 0 1 (fun S : FT => S.now) (fun S u => S.sNow u) sp_X4_runMinute), (50, O_iinc 2 1), (53, O_goto 38), (56, O_aload 0 1), (57, O_getf fpW 6 0), (60, O_getf fpW 4 5), (63, O_iret)]
abbrev cut_X6_pass : List Nat := [38]
set_option maxRecDepth 100000 in
theorem okc_X6_pass {E : En} (F : Fx E RX6 cX6_pass 3 5) (G : Fr E (some .int)) : CodOk E fpW cod_X6_pass := by
  unfold CodOk cod_X6_pass
  refine List.forall_mem_cons.mpr ⟨ok_iload_n F dX6_pass_0 rfl (by decide), ?_⟩
  refine List.forall_mem_cons.mpr ⟨ok_iconst F dX6_pass_1 (by decide) (by decide), ?_⟩
  refine List.forall_mem_cons.mpr ⟨ok_sipush F dX6_pass_2 (by decide) (by decide), ?_⟩
  refine List.forall_mem_cons.mpr ⟨ok_callS F spok_X6_within (by decide +kernel) rfl (by decide) dX6_pass_5 (by decide), ?_⟩
  refine List.forall_mem_cons.mpr ⟨ok_if_ne F dX6_pass_8 (by decide) (by decide) (by decide), ?_⟩
  refine List.forall_mem_cons.mpr ⟨ok_ldc F (ix := 41) (wsHas_mem (l := [Jvm.Cond.constant RX6 41 (-1000001)]) (by decide +kernel) (by simp)) dX6_pass_11 (by decide), ?_⟩
  refine List.forall_mem_cons.mpr ⟨ok_iret F G dX6_pass_13 (by decide), ?_⟩
  refine List.forall_mem_cons.mpr ⟨ok_aload_n F dX6_pass_14 rfl (by decide), ?_⟩
  refine List.forall_mem_cons.mpr ⟨ok_getf F flX6_10 dX6_pass_15 (by decide), ?_⟩
  refine List.forall_mem_cons.mpr ⟨ok_getf F flX6_159 dX6_pass_18 (by decide), ?_⟩
  refine List.forall_mem_cons.mpr ⟨ok_iload_n F dX6_pass_21 rfl (by decide), ?_⟩
  refine List.forall_mem_cons.mpr ⟨ok_iadd F dX6_pass_22 (by decide), ?_⟩
  refine List.forall_mem_cons.mpr ⟨ok_sipush F dX6_pass_23 (by decide) (by decide), ?_⟩
  refine List.forall_mem_cons.mpr ⟨ok_icmp_le F dX6_pass_26 (by decide) (by decide) (by decide), ?_⟩
  refine List.forall_mem_cons.mpr ⟨ok_ldc F (ix := 58) (wsHas_mem (l := [Jvm.Cond.constant RX6 58 (-1000003)]) (by decide +kernel) (by simp)) dX6_pass_29 (by decide), ?_⟩
  refine List.forall_mem_cons.mpr ⟨ok_iret F G dX6_pass_31 (by decide), ?_⟩
  refine List.forall_mem_cons.mpr ⟨ok_aload_n F dX6_pass_32 rfl (by decide), ?_⟩
  refine List.forall_mem_cons.mpr ⟨ok_callV F spok_X6_remember (ln_id fpW) rcv_fpW (by decide +kernel) (by decide) dX6_pass_33 (by decide), ?_⟩
  refine List.forall_mem_cons.mpr ⟨ok_iconst F dX6_pass_36 (by decide) (by decide), ?_⟩
  refine List.forall_mem_cons.mpr ⟨ok_istore_n F dX6_pass_37 rfl (by decide) (by decide), ?_⟩
  refine List.forall_mem_cons.mpr ⟨ok_iload_n F dX6_pass_38 rfl (by decide), ?_⟩
  refine List.forall_mem_cons.mpr ⟨ok_iload_n F dX6_pass_39 rfl (by decide), ?_⟩
  refine List.forall_mem_cons.mpr ⟨ok_icmp_ge F dX6_pass_40 (by decide) (by decide) (by decide), ?_⟩
  refine List.forall_mem_cons.mpr ⟨ok_aload_n F dX6_pass_43 rfl (by decide), ?_⟩
  refine List.forall_mem_cons.mpr ⟨ok_getf F flX6_10 dX6_pass_44 (by decide), ?_⟩
  refine List.forall_mem_cons.mpr ⟨ok_callV F spok_X4_runMinute ln_fp_now rcv_stW (by decide +kernel) (by decide) dX6_pass_47 (by decide), ?_⟩
  refine List.forall_mem_cons.mpr ⟨ok_iinc F dX6_pass_50 (by decide) (by decide) (by decide), ?_⟩
  refine List.forall_mem_cons.mpr ⟨ok_goto F dX6_pass_53 (by decide) (by decide) (by decide), ?_⟩
  refine List.forall_mem_cons.mpr ⟨ok_aload_n F dX6_pass_56 rfl (by decide), ?_⟩
  refine List.forall_mem_cons.mpr ⟨ok_getf F flX6_10 dX6_pass_57 (by decide), ?_⟩
  refine List.forall_mem_cons.mpr ⟨ok_getf F flX6_159 dX6_pass_60 (by decide), ?_⟩
  refine List.forall_mem_cons.mpr ⟨ok_iret F G dX6_pass_63 (by decide), ?_⟩
  exact fun _ h => absurd h List.not_mem_nil
set_option maxRecDepth 100000 in
theorem w_X6_pass : (∀ (K : Kt FT) (n : Nat) (L : xL) (st : List Value) (S : FT), nx cod_X6_pass cut_X6_pass K (n + 1) 0 L st S = (O_iload 1 1) (nx cod_X6_pass cut_X6_pass K n) 0 L st S) ∧
  (∀ (K : Kt FT) (n : Nat) (L : xL) (st : List Value) (S : FT), nx cod_X6_pass cut_X6_pass K (n + 1) 1 L st S = (O_int 1 1) (nx cod_X6_pass cut_X6_pass K n) 1 L st S) ∧
  (∀ (K : Kt FT) (n : Nat) (L : xL) (st : List Value) (S : FT), nx cod_X6_pass cut_X6_pass K (n + 1) 2 L st S = (O_int 240 3) (nx cod_X6_pass cut_X6_pass K n) 2 L st S) ∧
  (∀ (K : Kt FT) (n : Nat) (L : xL) (st : List Value) (S : FT), nx cod_X6_pass cut_X6_pass K (n + 1) 5 L st S = (O_callS 3 sp_X6_within) (nx cod_X6_pass cut_X6_pass K n) 5 L st S) ∧
  (∀ (K : Kt FT) (n : Nat) (L : xL) (st : List Value) (S : FT), nx cod_X6_pass cut_X6_pass K (n + 1) 8 L st S = (O_if_ne 14) (nx cod_X6_pass cut_X6_pass K n) 8 L st S) ∧
  (∀ (K : Kt FT) (n : Nat) (L : xL) (st : List Value) (S : FT), nx cod_X6_pass cut_X6_pass K (n + 1) 11 L st S = (O_int (-1000001) 2) (nx cod_X6_pass cut_X6_pass K n) 11 L st S) ∧
  (∀ (K : Kt FT) (n : Nat) (L : xL) (st : List Value) (S : FT), nx cod_X6_pass cut_X6_pass K (n + 1) 13 L st S = (O_iret) (nx cod_X6_pass cut_X6_pass K n) 13 L st S) ∧
  (∀ (K : Kt FT) (n : Nat) (L : xL) (st : List Value) (S : FT), nx cod_X6_pass cut_X6_pass K (n + 1) 14 L st S = (O_aload 0 1) (nx cod_X6_pass cut_X6_pass K n) 14 L st S) ∧
  (∀ (K : Kt FT) (n : Nat) (L : xL) (st : List Value) (S : FT), nx cod_X6_pass cut_X6_pass K (n + 1) 15 L st S = (O_getf fpW 6 0) (nx cod_X6_pass cut_X6_pass K n) 15 L st S) ∧
  (∀ (K : Kt FT) (n : Nat) (L : xL) (st : List Value) (S : FT), nx cod_X6_pass cut_X6_pass K (n + 1) 18 L st S = (O_getf fpW 4 5) (nx cod_X6_pass cut_X6_pass K n) 18 L st S) ∧
  (∀ (K : Kt FT) (n : Nat) (L : xL) (st : List Value) (S : FT), nx cod_X6_pass cut_X6_pass K (n + 1) 21 L st S = (O_iload 1 1) (nx cod_X6_pass cut_X6_pass K n) 21 L st S) ∧
  (∀ (K : Kt FT) (n : Nat) (L : xL) (st : List Value) (S : FT), nx cod_X6_pass cut_X6_pass K (n + 1) 22 L st S = (O_iadd) (nx cod_X6_pass cut_X6_pass K n) 22 L st S) ∧
  (∀ (K : Kt FT) (n : Nat) (L : xL) (st : List Value) (S : FT), nx cod_X6_pass cut_X6_pass K (n + 1) 23 L st S = (O_int 20000 3) (nx cod_X6_pass cut_X6_pass K n) 23 L st S) ∧
  (∀ (K : Kt FT) (n : Nat) (L : xL) (st : List Value) (S : FT), nx cod_X6_pass cut_X6_pass K (n + 1) 26 L st S = (O_icmp_le 32) (nx cod_X6_pass cut_X6_pass K n) 26 L st S) ∧
  (∀ (K : Kt FT) (n : Nat) (L : xL) (st : List Value) (S : FT), nx cod_X6_pass cut_X6_pass K (n + 1) 29 L st S = (O_int (-1000003) 2) (nx cod_X6_pass cut_X6_pass K n) 29 L st S) ∧
  (∀ (K : Kt FT) (n : Nat) (L : xL) (st : List Value) (S : FT), nx cod_X6_pass cut_X6_pass K (n + 1) 31 L st S = (O_iret) (nx cod_X6_pass cut_X6_pass K n) 31 L st S) ∧
  (∀ (K : Kt FT) (n : Nat) (L : xL) (st : List Value) (S : FT), nx cod_X6_pass cut_X6_pass K (n + 1) 32 L st S = (O_aload 0 1) (nx cod_X6_pass cut_X6_pass K n) 32 L st S) ∧
  (∀ (K : Kt FT) (n : Nat) (L : xL) (st : List Value) (S : FT), nx cod_X6_pass cut_X6_pass K (n + 1) 33 L st S = (O_callV 0 0 (fun S => S) (fun _ S' => S') sp_X6_remember) (nx cod_X6_pass cut_X6_pass K n) 33 L st S) ∧
  (∀ (K : Kt FT) (n : Nat) (L : xL) (st : List Value) (S : FT), nx cod_X6_pass cut_X6_pass K (n + 1) 36 L st S = (O_int 0 1) (nx cod_X6_pass cut_X6_pass K n) 36 L st S) ∧
  (∀ (K : Kt FT) (n : Nat) (L : xL) (st : List Value) (S : FT), nx cod_X6_pass cut_X6_pass K (n + 1) 37 L st S = (O_istore 2 1) (nx cod_X6_pass cut_X6_pass K n) 37 L st S) ∧
  (∀ (K : Kt FT) (n : Nat) (L : xL) (st : List Value) (S : FT), nx cod_X6_pass cut_X6_pass K (n + 1) 38 L st S = K 38 L st S) ∧
  (∀ (K : Kt FT) (n : Nat) (L : xL) (st : List Value) (S : FT), nx1 cod_X6_pass cut_X6_pass K n 38 L st S = (O_iload 2 1) (nx cod_X6_pass cut_X6_pass K n) 38 L st S) ∧
  (∀ (K : Kt FT) (n : Nat) (L : xL) (st : List Value) (S : FT), nx cod_X6_pass cut_X6_pass K (n + 1) 39 L st S = (O_iload 1 1) (nx cod_X6_pass cut_X6_pass K n) 39 L st S) ∧
  (∀ (K : Kt FT) (n : Nat) (L : xL) (st : List Value) (S : FT), nx cod_X6_pass cut_X6_pass K (n + 1) 40 L st S = (O_icmp_ge 56) (nx cod_X6_pass cut_X6_pass K n) 40 L st S) ∧
  (∀ (K : Kt FT) (n : Nat) (L : xL) (st : List Value) (S : FT), nx cod_X6_pass cut_X6_pass K (n + 1) 43 L st S = (O_aload 0 1) (nx cod_X6_pass cut_X6_pass K n) 43 L st S) ∧
  (∀ (K : Kt FT) (n : Nat) (L : xL) (st : List Value) (S : FT), nx cod_X6_pass cut_X6_pass K (n + 1) 44 L st S = (O_getf fpW 6 0) (nx cod_X6_pass cut_X6_pass K n) 44 L st S) ∧
  (∀ (K : Kt FT) (n : Nat) (L : xL) (st : List Value) (S : FT), nx cod_X6_pass cut_X6_pass K (n + 1) 47 L st S = (O_callV 0 1 (fun S : FT => S.now) (fun S u => S.sNow u) sp_X4_runMinute) (nx cod_X6_pass cut_X6_pass K n) 47 L st S) ∧
  (∀ (K : Kt FT) (n : Nat) (L : xL) (st : List Value) (S : FT), nx cod_X6_pass cut_X6_pass K (n + 1) 50 L st S = (O_iinc 2 1) (nx cod_X6_pass cut_X6_pass K n) 50 L st S) ∧
  (∀ (K : Kt FT) (n : Nat) (L : xL) (st : List Value) (S : FT), nx cod_X6_pass cut_X6_pass K (n + 1) 53 L st S = (O_goto 38) (nx cod_X6_pass cut_X6_pass K n) 53 L st S) ∧
  (∀ (K : Kt FT) (n : Nat) (L : xL) (st : List Value) (S : FT), nx cod_X6_pass cut_X6_pass K (n + 1) 56 L st S = (O_aload 0 1) (nx cod_X6_pass cut_X6_pass K n) 56 L st S) ∧
  (∀ (K : Kt FT) (n : Nat) (L : xL) (st : List Value) (S : FT), nx cod_X6_pass cut_X6_pass K (n + 1) 57 L st S = (O_getf fpW 6 0) (nx cod_X6_pass cut_X6_pass K n) 57 L st S) ∧
  (∀ (K : Kt FT) (n : Nat) (L : xL) (st : List Value) (S : FT), nx cod_X6_pass cut_X6_pass K (n + 1) 60 L st S = (O_getf fpW 4 5) (nx cod_X6_pass cut_X6_pass K n) 60 L st S) ∧
  (∀ (K : Kt FT) (n : Nat) (L : xL) (st : List Value) (S : FT), nx cod_X6_pass cut_X6_pass K (n + 1) 63 L st S = (O_iret) (nx cod_X6_pass cut_X6_pass K n) 63 L st S) ∧
  (∀ (K : Kt FT) (n : Nat) (L : xL) (st : List Value) (S : FT), nx cod_X6_pass cut_X6_pass K (n + 1) 100000 L st S = K 100000 L st S) := by
  repeat' apply And.intro
  all_goals (intros; rfl)
set_option maxRecDepth 100000 in
theorem mk_X6_pass {P P' : FT} {r : Option Value} {p0 : Int32} (body : ∀ E : En, CodOk E fpW cod_X6_pass → Gd E fpW 100000 [] r.toList P' → Gd E fpW 0 [some (.ref 0), some (.int p0), none] [] P) : Con yX6_pass cX6_pass 3 (some .int) 5 fpW [.ref 0, .int p0] P r P' :=
  Con.of (by decide) rfl rfl (Nat.le_of_ble_eq_true rfl) (fun E F G hr => body E (okc_X6_pass F G) hr)
set_option maxRecDepth 10000 in
theorem con_X6_pass (S : FT) (m : Int32) (hp : S.good) : Con yX6_pass cX6_pass 3 (some .int) 5 fpW [.ref 0, .int m] S (some (.int (if inR m 1 240 = false then -1000001 else if 20000 < S.now.time + m then -1000003 else (S.now.mins m.toNatClampNeg).time))) (if inR m 1 240 = true ∧ ¬ 20000 < S.now.time + m then S.remember.sNow (S.now.mins m.toNatClampNeg) else S) := by
  refine mk_X6_pass (fun E C hr => ?_)
  have h1 := hp.1
  have h2 := hp.2.1
  clear hp
  have key : inR m 1 240 = true → ¬ 20000 < S.now.time + m → Gd E fpW 38 [some (.ref 0), some (.int m), some (.int (nI 0))] [] S.remember := by
    intro hc ht
    obtain ⟨hm, hb⟩ := inR_n hc (by decide) (by decide)
    have hz : Gd E fpW 38 [some (.ref 0), some (.int m), some (.int (nI 0))] [] (S.remember.sNow S.now) := by
      refine it_up (f := fun _ T => ST.minute T) (a := S.now) (n := m.toNatClampNeg) (fun _ T => T.okk) (fun i T => Gd E fpW 38 [some (.ref 0), some (.int m), some (.int (nI i))] [] (S.remember.sNow T)) h2 (fun i T hi hT => ST.minute_okk hT) (fun i T hi hT hn => ?_) ?_
      · have hx := lps hm hb hi
        clear hm hb
        have hk := hT.1
        (refine nx1_ok C cut_X6_pass 1000 ?_; simp only [w_X6_pass, ops_eq, xst_eq, call_eq, oK_eq, Option.toList_some, Option.toList_none, List.cons_append, List.nil_append, List.length_cons, List.length_nil, true_and, and_true, Nat.reduceAdd, fpW_F, fpW_A, fpW_S, fpW_P, FT_id, ST_id, FT_gs, ST_gs, PT_gs, ZT_gs, NT_gs, ET_gs, OT_gs, se_X6_within, se_X6_remember, se_X4_runMinute, hx, hk])
        ((repeat' (with_reducible first | apply And.intro | intro _)) <;> simp_all [FT_id, ST_id, FT_gs, ST_gs, PT_gs, ZT_gs, NT_gs, ET_gs, OT_gs])
      · have hx := lpe hm hb
        clear hm hb
        (refine nx1_ok C cut_X6_pass 1000 ?_; simp only [w_X6_pass, ops_eq, xst_eq, call_eq, oK_eq, Option.toList_some, Option.toList_none, List.cons_append, List.nil_append, List.length_cons, List.length_nil, true_and, and_true, Nat.reduceAdd, fpW_F, fpW_A, fpW_S, fpW_P, FT_id, ST_id, FT_gs, ST_gs, PT_gs, ZT_gs, NT_gs, ET_gs, OT_gs, se_X6_within, se_X6_remember, se_X4_runMinute, hx])
        ((repeat' (with_reducible first | apply And.intro | intro _)) <;> simp_all [ST.mins, FT_id, ST_id, FT_gs, ST_gs, PT_gs, ZT_gs, NT_gs, ET_gs, OT_gs])
    rw [rmb_id] at hz
    exact hz
  have h3 := h2.2
  (refine nx_ok C (cuts := cut_X6_pass) 1000 _ _ _ _ ?_; simp only [w_X6_pass, ops_eq, xst_eq, call_eq, oK_eq, Option.toList_some, Option.toList_none, List.cons_append, List.nil_append, List.length_cons, List.length_nil, true_and, and_true, Nat.reduceAdd, fpW_F, fpW_A, fpW_S, fpW_P, FT_id, ST_id, FT_gs, ST_gs, PT_gs, ZT_gs, NT_gs, ET_gs, OT_gs, se_X6_within, se_X6_remember, se_X4_runMinute, bI_eq, rmb_eq, h1, h3])
  ((repeat' (with_reducible first | apply And.intro | intro _)) <;> simp_all [nI_0, FT_id, ST_id, FT_gs, ST_gs, PT_gs, ZT_gs, NT_gs, ET_gs, OT_gs])
def sp_X6_pass : Sp FT := fun av S K => match av with
  | [.ref 0, .int m] => (S.good) ∧ K (some (.int (if inR m 1 240 = false then -1000001 else if 20000 < S.now.time + m then -1000003 else (S.now.mins m.toNatClampNeg).time))) (if inR m 1 240 = true ∧ ¬ 20000 < S.now.time + m then S.remember.sNow (S.now.mins m.toNatClampNeg) else S)
  | _ => False
theorem se_X6_pass (m : Int32) (S : FT) (K : Option Value → FT → Prop) : sp_X6_pass [.ref 0, .int m] S K = ((S.good) ∧ K (some (.int (if inR m 1 240 = false then -1000001 else if 20000 < S.now.time + m then -1000003 else (S.now.mins m.toNatClampNeg).time))) (if inR m 1 240 = true ∧ ¬ 20000 < S.now.time + m then S.remember.sNow (S.now.mins m.toNatClampNeg) else S)) := rfl
theorem spok_X6_pass : SpOk yX6_pass cX6_pass 3 (some .int) 5 fpW sp_X6_pass := by
  intro av S K h
  unfold sp_X6_pass at h
  split at h
  · rename_i m; exact ⟨some (.int (if inR m 1 240 = false then -1000001 else if 20000 < S.now.time + m then -1000003 else (S.now.mins m.toNatClampNeg).time)), if inR m 1 240 = true ∧ ¬ 20000 < S.now.time + m then S.remember.sNow (S.now.mins m.toNatClampNeg) else S, trivial, con_X6_pass S m h.1, h.2⟩
  · exact h.elim
def ST.seen (S : ST) (w : Int32) : Int32 := if w = 0 then S.pressure else if w = 1 then S.level else if w = 2 then S.P.running else if w = 3 then (if S.P.vrb = -1 then -1000004 else S.P.vrb) else S.supply
def okFore (m w : Int32) : Bool := inR m 1 1440 && inR w 0 4
theorem flX6_16 : fldOk RX6 16 6 1 = true := by decide +kernel
def cod_X6_foresee : List (Nat × Op FT) := [(0, O_iload 1 1), (1, O_int 1 1), (2, O_int 1440 3), (5, O_callS 3 sp_X6_within), (8, O_if_eq 20), (11, O_iload 2 1), (12, O_int 0 1), (13, O_int 4 1), (14, O_callS 3 sp_X6_within), (17, O_if_ne 23), (20, O_int (-1000001) 2), (22, O_iret), (23, O_aload 0 1), (24, O_getf fpW 6 1), (27, O_aload 0 1), (28, O_getf fpW 6 0), (31, O_callC 25 1 24 (fun S : FT => (S.trial, S.now)) (fun S u => (S.sTrial u.1).sNow u.2) sp_X4_copyFrom), (34, O_int 0 1), (35, O_istore 3 1), (36, O_iload 3 1), (37, O_iload 1 1), (38, O_icmp_ge 54), (41, O_aload 0 1), (42, O_getf fpW 6 1), (45, O_callV 0 25 (fun S : FT => S.trial) (fun S u => S.sTrial u) sp_X4_runMinute), (48, O_iinc 3 1), (51, O_goto 36), (54, O_iload 2 1), (55, O_switch [(0, 84), (1, 92), (2, 100), (3, 111)] 141), (84, O_aload 0 1), (85, O_getf fpW 6 1), (88, O_getf fpW 4 6), (91, O_iret), (92, O_aload 0 1), (93, O_getf fpW 6 1), (96, O_getf fpW 4 7), (99, O_iret), (100, O_aload 0 1), (101, O_getf fpW 6 1), (104, O_getf fpW 4 1), (107, O_callV 0 27 (fun S : FT => S.trial.P) (fun S u => S.sTrial (S.trial.sP u)) sp_X3_running), (110, O_iret), (111, O_aload 0 1), (112, O_getf fpW 6 1), (115, O_getf fpW 4 1), (118, O_getf fpW 3 9), (121, O_int (-1) 1), (122, O_icmp_ne 130), (125, O_int (-1000004) 2), (127, O_goto 140), (130, O_aload 0 1), (131, O_getf fpW 6 1), (134, O_getf fpW 4 1), (137, O_getf fpW 3 9), (140, O_iret), (141, O_aload 0 1), (142, O_getf fpW 6 1), (145, O_getf fpW 4 9), (148, O_iret)]
abbrev cut_X6_foresee : List Nat := [36, 54]
set_option maxRecDepth 100000 in
theorem okc_X6_foresee {E : En} (F : Fx E RX6 cX6_foresee 4 5) (G : Fr E (some .int)) : CodOk E fpW cod_X6_foresee := by
  unfold CodOk cod_X6_foresee
  refine List.forall_mem_cons.mpr ⟨ok_iload_n F dX6_foresee_0 rfl (by decide), ?_⟩
  refine List.forall_mem_cons.mpr ⟨ok_iconst F dX6_foresee_1 (by decide) (by decide), ?_⟩
  refine List.forall_mem_cons.mpr ⟨ok_sipush F dX6_foresee_2 (by decide) (by decide), ?_⟩
  refine List.forall_mem_cons.mpr ⟨ok_callS F spok_X6_within (by decide +kernel) rfl (by decide) dX6_foresee_5 (by decide), ?_⟩
  refine List.forall_mem_cons.mpr ⟨ok_if_eq F dX6_foresee_8 (by decide) (by decide) (by decide), ?_⟩
  refine List.forall_mem_cons.mpr ⟨ok_iload_n F dX6_foresee_11 rfl (by decide), ?_⟩
  refine List.forall_mem_cons.mpr ⟨ok_iconst F dX6_foresee_12 (by decide) (by decide), ?_⟩
  refine List.forall_mem_cons.mpr ⟨ok_iconst F dX6_foresee_13 (by decide) (by decide), ?_⟩
  refine List.forall_mem_cons.mpr ⟨ok_callS F spok_X6_within (by decide +kernel) rfl (by decide) dX6_foresee_14 (by decide), ?_⟩
  refine List.forall_mem_cons.mpr ⟨ok_if_ne F dX6_foresee_17 (by decide) (by decide) (by decide), ?_⟩
  refine List.forall_mem_cons.mpr ⟨ok_ldc F (ix := 41) (wsHas_mem (l := [Jvm.Cond.constant RX6 41 (-1000001)]) (by decide +kernel) (by simp)) dX6_foresee_20 (by decide), ?_⟩
  refine List.forall_mem_cons.mpr ⟨ok_iret F G dX6_foresee_22 (by decide), ?_⟩
  refine List.forall_mem_cons.mpr ⟨ok_aload_n F dX6_foresee_23 rfl (by decide), ?_⟩
  refine List.forall_mem_cons.mpr ⟨ok_getf F flX6_16 dX6_foresee_24 (by decide), ?_⟩
  refine List.forall_mem_cons.mpr ⟨ok_aload_n F dX6_foresee_27 rfl (by decide), ?_⟩
  refine List.forall_mem_cons.mpr ⟨ok_getf F flX6_10 dX6_foresee_28 (by decide), ?_⟩
  refine List.forall_mem_cons.mpr ⟨ok_callC F (by decide) spok_X4_copyFrom ln2_fp_trial_now rcv_stW (by decide +kernel) (by decide) dX6_foresee_31 (by decide), ?_⟩
  refine List.forall_mem_cons.mpr ⟨ok_iconst F dX6_foresee_34 (by decide) (by decide), ?_⟩
  refine List.forall_mem_cons.mpr ⟨ok_istore_n F dX6_foresee_35 rfl (by decide) (by decide), ?_⟩
  refine List.forall_mem_cons.mpr ⟨ok_iload_n F dX6_foresee_36 rfl (by decide), ?_⟩
  refine List.forall_mem_cons.mpr ⟨ok_iload_n F dX6_foresee_37 rfl (by decide), ?_⟩
  refine List.forall_mem_cons.mpr ⟨ok_icmp_ge F dX6_foresee_38 (by decide) (by decide) (by decide), ?_⟩
  refine List.forall_mem_cons.mpr ⟨ok_aload_n F dX6_foresee_41 rfl (by decide), ?_⟩
  refine List.forall_mem_cons.mpr ⟨ok_getf F flX6_16 dX6_foresee_42 (by decide), ?_⟩
  refine List.forall_mem_cons.mpr ⟨ok_callV F spok_X4_runMinute ln_fp_trial rcv_stW (by decide +kernel) (by decide) dX6_foresee_45 (by decide), ?_⟩
  refine List.forall_mem_cons.mpr ⟨ok_iinc F dX6_foresee_48 (by decide) (by decide) (by decide), ?_⟩
  refine List.forall_mem_cons.mpr ⟨ok_goto F dX6_foresee_51 (by decide) (by decide) (by decide), ?_⟩
  refine List.forall_mem_cons.mpr ⟨ok_iload_n F dX6_foresee_54 rfl (by decide), ?_⟩
  refine List.forall_mem_cons.mpr ⟨ok_table F dX6_foresee_55 (by decide +kernel) (by decide), ?_⟩
  refine List.forall_mem_cons.mpr ⟨ok_aload_n F dX6_foresee_84 rfl (by decide), ?_⟩
  refine List.forall_mem_cons.mpr ⟨ok_getf F flX6_16 dX6_foresee_85 (by decide), ?_⟩
  refine List.forall_mem_cons.mpr ⟨ok_getf F flX6_100 dX6_foresee_88 (by decide), ?_⟩
  refine List.forall_mem_cons.mpr ⟨ok_iret F G dX6_foresee_91 (by decide), ?_⟩
  refine List.forall_mem_cons.mpr ⟨ok_aload_n F dX6_foresee_92 rfl (by decide), ?_⟩
  refine List.forall_mem_cons.mpr ⟨ok_getf F flX6_16 dX6_foresee_93 (by decide), ?_⟩
  refine List.forall_mem_cons.mpr ⟨ok_getf F flX6_150 dX6_foresee_96 (by decide), ?_⟩
  refine List.forall_mem_cons.mpr ⟨ok_iret F G dX6_foresee_99 (by decide), ?_⟩
  refine List.forall_mem_cons.mpr ⟨ok_aload_n F dX6_foresee_100 rfl (by decide), ?_⟩
  refine List.forall_mem_cons.mpr ⟨ok_getf F flX6_16 dX6_foresee_101 (by decide), ?_⟩
  refine List.forall_mem_cons.mpr ⟨ok_getf F flX6_50 dX6_foresee_104 (by decide), ?_⟩
  refine List.forall_mem_cons.mpr ⟨ok_callV F spok_X3_running ln_fp_trial_P rcv_pW (by decide +kernel) (by decide) dX6_foresee_107 (by decide), ?_⟩
  refine List.forall_mem_cons.mpr ⟨ok_iret F G dX6_foresee_110 (by decide), ?_⟩
  refine List.forall_mem_cons.mpr ⟨ok_aload_n F dX6_foresee_111 rfl (by decide), ?_⟩
  refine List.forall_mem_cons.mpr ⟨ok_getf F flX6_16 dX6_foresee_112 (by decide), ?_⟩
  refine List.forall_mem_cons.mpr ⟨ok_getf F flX6_50 dX6_foresee_115 (by decide), ?_⟩
  refine List.forall_mem_cons.mpr ⟨ok_getf F flX6_88 dX6_foresee_118 (by decide), ?_⟩
  refine List.forall_mem_cons.mpr ⟨ok_iconst F dX6_foresee_121 (by decide) (by decide), ?_⟩
  refine List.forall_mem_cons.mpr ⟨ok_icmp_ne F dX6_foresee_122 (by decide) (by decide) (by decide), ?_⟩
  refine List.forall_mem_cons.mpr ⟨ok_ldc F (ix := 110) (wsHas_mem (l := [Jvm.Cond.constant RX6 110 (-1000004)]) (by decide +kernel) (by simp)) dX6_foresee_125 (by decide), ?_⟩
  refine List.forall_mem_cons.mpr ⟨ok_goto F dX6_foresee_127 (by decide) (by decide) (by decide), ?_⟩
  refine List.forall_mem_cons.mpr ⟨ok_aload_n F dX6_foresee_130 rfl (by decide), ?_⟩
  refine List.forall_mem_cons.mpr ⟨ok_getf F flX6_16 dX6_foresee_131 (by decide), ?_⟩
  refine List.forall_mem_cons.mpr ⟨ok_getf F flX6_50 dX6_foresee_134 (by decide), ?_⟩
  refine List.forall_mem_cons.mpr ⟨ok_getf F flX6_88 dX6_foresee_137 (by decide), ?_⟩
  refine List.forall_mem_cons.mpr ⟨ok_iret F G dX6_foresee_140 (by decide), ?_⟩
  refine List.forall_mem_cons.mpr ⟨ok_aload_n F dX6_foresee_141 rfl (by decide), ?_⟩
  refine List.forall_mem_cons.mpr ⟨ok_getf F flX6_16 dX6_foresee_142 (by decide), ?_⟩
  refine List.forall_mem_cons.mpr ⟨ok_getf F flX6_172 dX6_foresee_145 (by decide), ?_⟩
  refine List.forall_mem_cons.mpr ⟨ok_iret F G dX6_foresee_148 (by decide), ?_⟩
  exact fun _ h => absurd h List.not_mem_nil
set_option maxRecDepth 100000 in
theorem w_X6_foresee : (∀ (K : Kt FT) (n : Nat) (L : xL) (st : List Value) (S : FT), nx cod_X6_foresee cut_X6_foresee K (n + 1) 0 L st S = (O_iload 1 1) (nx cod_X6_foresee cut_X6_foresee K n) 0 L st S) ∧
  (∀ (K : Kt FT) (n : Nat) (L : xL) (st : List Value) (S : FT), nx cod_X6_foresee cut_X6_foresee K (n + 1) 1 L st S = (O_int 1 1) (nx cod_X6_foresee cut_X6_foresee K n) 1 L st S) ∧
  (∀ (K : Kt FT) (n : Nat) (L : xL) (st : List Value) (S : FT), nx cod_X6_foresee cut_X6_foresee K (n + 1) 2 L st S = (O_int 1440 3) (nx cod_X6_foresee cut_X6_foresee K n) 2 L st S) ∧
  (∀ (K : Kt FT) (n : Nat) (L : xL) (st : List Value) (S : FT), nx cod_X6_foresee cut_X6_foresee K (n + 1) 5 L st S = (O_callS 3 sp_X6_within) (nx cod_X6_foresee cut_X6_foresee K n) 5 L st S) ∧
  (∀ (K : Kt FT) (n : Nat) (L : xL) (st : List Value) (S : FT), nx cod_X6_foresee cut_X6_foresee K (n + 1) 8 L st S = (O_if_eq 20) (nx cod_X6_foresee cut_X6_foresee K n) 8 L st S) ∧
  (∀ (K : Kt FT) (n : Nat) (L : xL) (st : List Value) (S : FT), nx cod_X6_foresee cut_X6_foresee K (n + 1) 11 L st S = (O_iload 2 1) (nx cod_X6_foresee cut_X6_foresee K n) 11 L st S) ∧
  (∀ (K : Kt FT) (n : Nat) (L : xL) (st : List Value) (S : FT), nx cod_X6_foresee cut_X6_foresee K (n + 1) 12 L st S = (O_int 0 1) (nx cod_X6_foresee cut_X6_foresee K n) 12 L st S) ∧
  (∀ (K : Kt FT) (n : Nat) (L : xL) (st : List Value) (S : FT), nx cod_X6_foresee cut_X6_foresee K (n + 1) 13 L st S = (O_int 4 1) (nx cod_X6_foresee cut_X6_foresee K n) 13 L st S) ∧
  (∀ (K : Kt FT) (n : Nat) (L : xL) (st : List Value) (S : FT), nx cod_X6_foresee cut_X6_foresee K (n + 1) 14 L st S = (O_callS 3 sp_X6_within) (nx cod_X6_foresee cut_X6_foresee K n) 14 L st S) ∧
  (∀ (K : Kt FT) (n : Nat) (L : xL) (st : List Value) (S : FT), nx cod_X6_foresee cut_X6_foresee K (n + 1) 17 L st S = (O_if_ne 23) (nx cod_X6_foresee cut_X6_foresee K n) 17 L st S) ∧
  (∀ (K : Kt FT) (n : Nat) (L : xL) (st : List Value) (S : FT), nx cod_X6_foresee cut_X6_foresee K (n + 1) 20 L st S = (O_int (-1000001) 2) (nx cod_X6_foresee cut_X6_foresee K n) 20 L st S) ∧
  (∀ (K : Kt FT) (n : Nat) (L : xL) (st : List Value) (S : FT), nx cod_X6_foresee cut_X6_foresee K (n + 1) 22 L st S = (O_iret) (nx cod_X6_foresee cut_X6_foresee K n) 22 L st S) ∧
  (∀ (K : Kt FT) (n : Nat) (L : xL) (st : List Value) (S : FT), nx cod_X6_foresee cut_X6_foresee K (n + 1) 23 L st S = (O_aload 0 1) (nx cod_X6_foresee cut_X6_foresee K n) 23 L st S) ∧
  (∀ (K : Kt FT) (n : Nat) (L : xL) (st : List Value) (S : FT), nx cod_X6_foresee cut_X6_foresee K (n + 1) 24 L st S = (O_getf fpW 6 1) (nx cod_X6_foresee cut_X6_foresee K n) 24 L st S) ∧
  (∀ (K : Kt FT) (n : Nat) (L : xL) (st : List Value) (S : FT), nx cod_X6_foresee cut_X6_foresee K (n + 1) 27 L st S = (O_aload 0 1) (nx cod_X6_foresee cut_X6_foresee K n) 27 L st S) ∧
  (∀ (K : Kt FT) (n : Nat) (L : xL) (st : List Value) (S : FT), nx cod_X6_foresee cut_X6_foresee K (n + 1) 28 L st S = (O_getf fpW 6 0) (nx cod_X6_foresee cut_X6_foresee K n) 28 L st S) ∧
  (∀ (K : Kt FT) (n : Nat) (L : xL) (st : List Value) (S : FT), nx cod_X6_foresee cut_X6_foresee K (n + 1) 31 L st S = (O_callC 25 1 24 (fun S : FT => (S.trial, S.now)) (fun S u => (S.sTrial u.1).sNow u.2) sp_X4_copyFrom) (nx cod_X6_foresee cut_X6_foresee K n) 31 L st S) ∧
  (∀ (K : Kt FT) (n : Nat) (L : xL) (st : List Value) (S : FT), nx cod_X6_foresee cut_X6_foresee K (n + 1) 34 L st S = (O_int 0 1) (nx cod_X6_foresee cut_X6_foresee K n) 34 L st S) ∧
  (∀ (K : Kt FT) (n : Nat) (L : xL) (st : List Value) (S : FT), nx cod_X6_foresee cut_X6_foresee K (n + 1) 35 L st S = (O_istore 3 1) (nx cod_X6_foresee cut_X6_foresee K n) 35 L st S) ∧
  (∀ (K : Kt FT) (n : Nat) (L : xL) (st : List Value) (S : FT), nx cod_X6_foresee cut_X6_foresee K (n + 1) 36 L st S = K 36 L st S) ∧
  (∀ (K : Kt FT) (n : Nat) (L : xL) (st : List Value) (S : FT), nx1 cod_X6_foresee cut_X6_foresee K n 36 L st S = (O_iload 3 1) (nx cod_X6_foresee cut_X6_foresee K n) 36 L st S) ∧
  (∀ (K : Kt FT) (n : Nat) (L : xL) (st : List Value) (S : FT), nx cod_X6_foresee cut_X6_foresee K (n + 1) 37 L st S = (O_iload 1 1) (nx cod_X6_foresee cut_X6_foresee K n) 37 L st S) ∧
  (∀ (K : Kt FT) (n : Nat) (L : xL) (st : List Value) (S : FT), nx cod_X6_foresee cut_X6_foresee K (n + 1) 38 L st S = (O_icmp_ge 54) (nx cod_X6_foresee cut_X6_foresee K n) 38 L st S) ∧
  (∀ (K : Kt FT) (n : Nat) (L : xL) (st : List Value) (S : FT), nx cod_X6_foresee cut_X6_foresee K (n + 1) 41 L st S = (O_aload 0 1) (nx cod_X6_foresee cut_X6_foresee K n) 41 L st S) ∧
  (∀ (K : Kt FT) (n : Nat) (L : xL) (st : List Value) (S : FT), nx cod_X6_foresee cut_X6_foresee K (n + 1) 42 L st S = (O_getf fpW 6 1) (nx cod_X6_foresee cut_X6_foresee K n) 42 L st S) ∧
  (∀ (K : Kt FT) (n : Nat) (L : xL) (st : List Value) (S : FT), nx cod_X6_foresee cut_X6_foresee K (n + 1) 45 L st S = (O_callV 0 25 (fun S : FT => S.trial) (fun S u => S.sTrial u) sp_X4_runMinute) (nx cod_X6_foresee cut_X6_foresee K n) 45 L st S) ∧
  (∀ (K : Kt FT) (n : Nat) (L : xL) (st : List Value) (S : FT), nx cod_X6_foresee cut_X6_foresee K (n + 1) 48 L st S = (O_iinc 3 1) (nx cod_X6_foresee cut_X6_foresee K n) 48 L st S) ∧
  (∀ (K : Kt FT) (n : Nat) (L : xL) (st : List Value) (S : FT), nx cod_X6_foresee cut_X6_foresee K (n + 1) 51 L st S = (O_goto 36) (nx cod_X6_foresee cut_X6_foresee K n) 51 L st S) ∧
  (∀ (K : Kt FT) (n : Nat) (L : xL) (st : List Value) (S : FT), nx cod_X6_foresee cut_X6_foresee K (n + 1) 54 L st S = K 54 L st S) ∧
  (∀ (K : Kt FT) (n : Nat) (L : xL) (st : List Value) (S : FT), nx1 cod_X6_foresee cut_X6_foresee K n 54 L st S = (O_iload 2 1) (nx cod_X6_foresee cut_X6_foresee K n) 54 L st S) ∧
  (∀ (K : Kt FT) (n : Nat) (L : xL) (st : List Value) (S : FT), nx cod_X6_foresee cut_X6_foresee K (n + 1) 55 L st S = (O_switch [(0, 84), (1, 92), (2, 100), (3, 111)] 141) (nx cod_X6_foresee cut_X6_foresee K n) 55 L st S) ∧
  (∀ (K : Kt FT) (n : Nat) (L : xL) (st : List Value) (S : FT), nx cod_X6_foresee cut_X6_foresee K (n + 1) 84 L st S = (O_aload 0 1) (nx cod_X6_foresee cut_X6_foresee K n) 84 L st S) ∧
  (∀ (K : Kt FT) (n : Nat) (L : xL) (st : List Value) (S : FT), nx cod_X6_foresee cut_X6_foresee K (n + 1) 85 L st S = (O_getf fpW 6 1) (nx cod_X6_foresee cut_X6_foresee K n) 85 L st S) ∧
  (∀ (K : Kt FT) (n : Nat) (L : xL) (st : List Value) (S : FT), nx cod_X6_foresee cut_X6_foresee K (n + 1) 88 L st S = (O_getf fpW 4 6) (nx cod_X6_foresee cut_X6_foresee K n) 88 L st S) ∧
  (∀ (K : Kt FT) (n : Nat) (L : xL) (st : List Value) (S : FT), nx cod_X6_foresee cut_X6_foresee K (n + 1) 91 L st S = (O_iret) (nx cod_X6_foresee cut_X6_foresee K n) 91 L st S) ∧
  (∀ (K : Kt FT) (n : Nat) (L : xL) (st : List Value) (S : FT), nx cod_X6_foresee cut_X6_foresee K (n + 1) 92 L st S = (O_aload 0 1) (nx cod_X6_foresee cut_X6_foresee K n) 92 L st S) ∧
  (∀ (K : Kt FT) (n : Nat) (L : xL) (st : List Value) (S : FT), nx cod_X6_foresee cut_X6_foresee K (n + 1) 93 L st S = (O_getf fpW 6 1) (nx cod_X6_foresee cut_X6_foresee K n) 93 L st S) ∧
  (∀ (K : Kt FT) (n : Nat) (L : xL) (st : List Value) (S : FT), nx cod_X6_foresee cut_X6_foresee K (n + 1) 96 L st S = (O_getf fpW 4 7) (nx cod_X6_foresee cut_X6_foresee K n) 96 L st S) ∧
  (∀ (K : Kt FT) (n : Nat) (L : xL) (st : List Value) (S : FT), nx cod_X6_foresee cut_X6_foresee K (n + 1) 99 L st S = (O_iret) (nx cod_X6_foresee cut_X6_foresee K n) 99 L st S) ∧
  (∀ (K : Kt FT) (n : Nat) (L : xL) (st : List Value) (S : FT), nx cod_X6_foresee cut_X6_foresee K (n + 1) 100 L st S = (O_aload 0 1) (nx cod_X6_foresee cut_X6_foresee K n) 100 L st S) ∧
  (∀ (K : Kt FT) (n : Nat) (L : xL) (st : List Value) (S : FT), nx cod_X6_foresee cut_X6_foresee K (n + 1) 101 L st S = (O_getf fpW 6 1) (nx cod_X6_foresee cut_X6_foresee K n) 101 L st S) ∧
  (∀ (K : Kt FT) (n : Nat) (L : xL) (st : List Value) (S : FT), nx cod_X6_foresee cut_X6_foresee K (n + 1) 104 L st S = (O_getf fpW 4 1) (nx cod_X6_foresee cut_X6_foresee K n) 104 L st S) ∧
  (∀ (K : Kt FT) (n : Nat) (L : xL) (st : List Value) (S : FT), nx cod_X6_foresee cut_X6_foresee K (n + 1) 107 L st S = (O_callV 0 27 (fun S : FT => S.trial.P) (fun S u => S.sTrial (S.trial.sP u)) sp_X3_running) (nx cod_X6_foresee cut_X6_foresee K n) 107 L st S) ∧
  (∀ (K : Kt FT) (n : Nat) (L : xL) (st : List Value) (S : FT), nx cod_X6_foresee cut_X6_foresee K (n + 1) 110 L st S = (O_iret) (nx cod_X6_foresee cut_X6_foresee K n) 110 L st S) ∧
  (∀ (K : Kt FT) (n : Nat) (L : xL) (st : List Value) (S : FT), nx cod_X6_foresee cut_X6_foresee K (n + 1) 111 L st S = (O_aload 0 1) (nx cod_X6_foresee cut_X6_foresee K n) 111 L st S) ∧
  (∀ (K : Kt FT) (n : Nat) (L : xL) (st : List Value) (S : FT), nx cod_X6_foresee cut_X6_foresee K (n + 1) 112 L st S = (O_getf fpW 6 1) (nx cod_X6_foresee cut_X6_foresee K n) 112 L st S) ∧
  (∀ (K : Kt FT) (n : Nat) (L : xL) (st : List Value) (S : FT), nx cod_X6_foresee cut_X6_foresee K (n + 1) 115 L st S = (O_getf fpW 4 1) (nx cod_X6_foresee cut_X6_foresee K n) 115 L st S) ∧
  (∀ (K : Kt FT) (n : Nat) (L : xL) (st : List Value) (S : FT), nx cod_X6_foresee cut_X6_foresee K (n + 1) 118 L st S = (O_getf fpW 3 9) (nx cod_X6_foresee cut_X6_foresee K n) 118 L st S) ∧
  (∀ (K : Kt FT) (n : Nat) (L : xL) (st : List Value) (S : FT), nx cod_X6_foresee cut_X6_foresee K (n + 1) 121 L st S = (O_int (-1) 1) (nx cod_X6_foresee cut_X6_foresee K n) 121 L st S) ∧
  (∀ (K : Kt FT) (n : Nat) (L : xL) (st : List Value) (S : FT), nx cod_X6_foresee cut_X6_foresee K (n + 1) 122 L st S = (O_icmp_ne 130) (nx cod_X6_foresee cut_X6_foresee K n) 122 L st S) ∧
  (∀ (K : Kt FT) (n : Nat) (L : xL) (st : List Value) (S : FT), nx cod_X6_foresee cut_X6_foresee K (n + 1) 125 L st S = (O_int (-1000004) 2) (nx cod_X6_foresee cut_X6_foresee K n) 125 L st S) ∧
  (∀ (K : Kt FT) (n : Nat) (L : xL) (st : List Value) (S : FT), nx cod_X6_foresee cut_X6_foresee K (n + 1) 127 L st S = (O_goto 140) (nx cod_X6_foresee cut_X6_foresee K n) 127 L st S) ∧
  (∀ (K : Kt FT) (n : Nat) (L : xL) (st : List Value) (S : FT), nx cod_X6_foresee cut_X6_foresee K (n + 1) 130 L st S = (O_aload 0 1) (nx cod_X6_foresee cut_X6_foresee K n) 130 L st S) ∧
  (∀ (K : Kt FT) (n : Nat) (L : xL) (st : List Value) (S : FT), nx cod_X6_foresee cut_X6_foresee K (n + 1) 131 L st S = (O_getf fpW 6 1) (nx cod_X6_foresee cut_X6_foresee K n) 131 L st S) ∧
  (∀ (K : Kt FT) (n : Nat) (L : xL) (st : List Value) (S : FT), nx cod_X6_foresee cut_X6_foresee K (n + 1) 134 L st S = (O_getf fpW 4 1) (nx cod_X6_foresee cut_X6_foresee K n) 134 L st S) ∧
  (∀ (K : Kt FT) (n : Nat) (L : xL) (st : List Value) (S : FT), nx cod_X6_foresee cut_X6_foresee K (n + 1) 137 L st S = (O_getf fpW 3 9) (nx cod_X6_foresee cut_X6_foresee K n) 137 L st S) ∧
  (∀ (K : Kt FT) (n : Nat) (L : xL) (st : List Value) (S : FT), nx cod_X6_foresee cut_X6_foresee K (n + 1) 140 L st S = (O_iret) (nx cod_X6_foresee cut_X6_foresee K n) 140 L st S) ∧
  (∀ (K : Kt FT) (n : Nat) (L : xL) (st : List Value) (S : FT), nx cod_X6_foresee cut_X6_foresee K (n + 1) 141 L st S = (O_aload 0 1) (nx cod_X6_foresee cut_X6_foresee K n) 141 L st S) ∧
  (∀ (K : Kt FT) (n : Nat) (L : xL) (st : List Value) (S : FT), nx cod_X6_foresee cut_X6_foresee K (n + 1) 142 L st S = (O_getf fpW 6 1) (nx cod_X6_foresee cut_X6_foresee K n) 142 L st S) ∧
  (∀ (K : Kt FT) (n : Nat) (L : xL) (st : List Value) (S : FT), nx cod_X6_foresee cut_X6_foresee K (n + 1) 145 L st S = (O_getf fpW 4 9) (nx cod_X6_foresee cut_X6_foresee K n) 145 L st S) ∧
  (∀ (K : Kt FT) (n : Nat) (L : xL) (st : List Value) (S : FT), nx cod_X6_foresee cut_X6_foresee K (n + 1) 148 L st S = (O_iret) (nx cod_X6_foresee cut_X6_foresee K n) 148 L st S) ∧
  (∀ (K : Kt FT) (n : Nat) (L : xL) (st : List Value) (S : FT), nx cod_X6_foresee cut_X6_foresee K (n + 1) 100000 L st S = K 100000 L st S) := by
  repeat' apply And.intro
  all_goals (intros; rfl)
set_option maxRecDepth 100000 in
theorem mk_X6_foresee {P P' : FT} {r : Option Value} {p0 : Int32} {p1 : Int32} (body : ∀ E : En, CodOk E fpW cod_X6_foresee → Gd E fpW 100000 [] r.toList P' → Gd E fpW 0 [some (.ref 0), some (.int p0), some (.int p1), none] [] P) : Con yX6_foresee cX6_foresee 4 (some .int) 5 fpW [.ref 0, .int p0, .int p1] P r P' :=
  Con.of (by decide) rfl rfl (Nat.le_of_ble_eq_true rfl) (fun E F G hr => body E (okc_X6_foresee F G) hr)
set_option maxRecDepth 10000 in
theorem con_X6_foresee (S : FT) (m : Int32) (w : Int32) (hp : S.good) : Con yX6_foresee cX6_foresee 4 (some .int) 5 fpW [.ref 0, .int m, .int w] S (some (.int (if okFore m w = false then -1000001 else (S.now.mins m.toNatClampNeg).seen w))) (if okFore m w = true then S.sTrial (S.now.mins m.toNatClampNeg) else S) := by
  refine mk_X6_foresee (fun E C hr => ?_)
  have h2 := hp.2.1
  clear hp
  have h3 := ST.mins_okk h2 m.toNatClampNeg
  have h4 := h3.1.1
  have h54 : okFore m w = true → Gd E fpW 54 [some (.ref 0), some (.int m), some (.int w), some (.int (nI m.toNatClampNeg))] [] (S.sTrial (S.now.mins m.toNatClampNeg)) := by
    intro hc
    rw [if_pos hc, if_neg (by rw [hc]; decide)] at hr
    (refine nx1_ok C cut_X6_foresee 1000 ?_; simp only [w_X6_foresee, ops_eq, xst_eq, call_eq, oK_eq, Option.toList_some, Option.toList_none, List.cons_append, List.nil_append, List.length_cons, List.length_nil, true_and, and_true, Nat.reduceAdd, fpW_F, fpW_A, fpW_S, fpW_P, FT_id, ST_id, FT_gs, ST_gs, PT_gs, ZT_gs, NT_gs, ET_gs, OT_gs, se_X6_within, se_X4_copyFrom, se_X4_runMinute, se_X3_running, h4])
    (repeat' (with_reducible first | apply And.intro | intro _)) <;> (try subst_vars) <;> first | exact Nat.zero_le _ | (simp_all [ST.seen]; done)
  have key : okFore m w = true → Gd E fpW 36 [some (.ref 0), some (.int m), some (.int w), some (.int (nI 0))] [] (S.sTrial S.now) := by
    intro hc
    have h5 := h54 hc
    obtain ⟨hm, hb⟩ := inR_n (m := m) (a := 1) (b := 1440) (by simp only [okFore, Bool.and_eq_true] at hc; exact hc.1) (by decide) (by decide)
    refine it_up (f := fun _ T => ST.minute T) (a := S.now) (n := m.toNatClampNeg) (fun _ T => T.okk) (fun i T => Gd E fpW 36 [some (.ref 0), some (.int m), some (.int w), some (.int (nI i))] [] (S.sTrial T)) h2 (fun i T hi hT => ST.minute_okk hT) (fun i T hi hT hn => ?_) ?_
    · have hx := lps hm hb hi
      clear hm hb hr h5 h54 h3 h4 hc
      have hk := hT.1
      (refine nx1_ok C cut_X6_foresee 1000 ?_; simp only [w_X6_foresee, ops_eq, xst_eq, call_eq, oK_eq, Option.toList_some, Option.toList_none, List.cons_append, List.nil_append, List.length_cons, List.length_nil, true_and, and_true, Nat.reduceAdd, fpW_F, fpW_A, fpW_S, fpW_P, FT_id, ST_id, FT_gs, ST_gs, PT_gs, ZT_gs, NT_gs, ET_gs, OT_gs, se_X6_within, se_X4_copyFrom, se_X4_runMinute, se_X3_running, hx, hk])
      ((repeat' (with_reducible first | apply And.intro | intro _)) <;> simp_all [FT_id, ST_id, FT_gs, ST_gs, PT_gs, ZT_gs, NT_gs, ET_gs, OT_gs])
    · have hx := lpe hm hb
      clear hm hb hr h54 h3 h4
      (refine nx1_ok C cut_X6_foresee 1000 ?_; simp only [w_X6_foresee, ops_eq, xst_eq, call_eq, oK_eq, Option.toList_some, Option.toList_none, List.cons_append, List.nil_append, List.length_cons, List.length_nil, true_and, and_true, Nat.reduceAdd, fpW_F, fpW_A, fpW_S, fpW_P, FT_id, ST_id, FT_gs, ST_gs, PT_gs, ZT_gs, NT_gs, ET_gs, OT_gs, se_X6_within, se_X4_copyFrom, se_X4_runMinute, se_X3_running, hx])
      ((repeat' (with_reducible first | apply And.intro | intro _)) <;> simp_all [ST.mins, FT_id, ST_id, FT_gs, ST_gs, PT_gs, ZT_gs, NT_gs, ET_gs, OT_gs])
  clear h54 h3 h4
  obtain ⟨hb1, hb2, hb3⟩ := h2.2
  unfold PT.bits at hb1
  unfold ZT.bits at hb2
  have e0 : (S.sTrial S.now).sNow S.now = S.sTrial S.now := rfl
  (refine nx_ok C (cuts := cut_X6_foresee) 1000 _ _ _ _ ?_; simp only [w_X6_foresee, ops_eq, xst_eq, call_eq, oK_eq, Option.toList_some, Option.toList_none, List.cons_append, List.nil_append, List.length_cons, List.length_nil, true_and, and_true, Nat.reduceAdd, fpW_F, fpW_A, fpW_S, fpW_P, FT_id, ST_id, FT_gs, ST_gs, PT_gs, ZT_gs, NT_gs, ET_gs, OT_gs, se_X6_within, se_X4_copyFrom, se_X4_runMinute, se_X3_running, bI_eq, O_callC_eq, hb1, hb2, hb3, e0])
  ((repeat' (with_reducible first | apply And.intro | intro _)) <;> simp_all [okFore, nI_0, FT_id, ST_id, FT_gs, ST_gs, PT_gs, ZT_gs, NT_gs, ET_gs, OT_gs])
def sp_X6_foresee : Sp FT := fun av S K => match av with
  | [.ref 0, .int m, .int w] => (S.good) ∧ K (some (.int (if okFore m w = false then -1000001 else (S.now.mins m.toNatClampNeg).seen w))) (if okFore m w = true then S.sTrial (S.now.mins m.toNatClampNeg) else S)
  | _ => False
theorem se_X6_foresee (m : Int32) (w : Int32) (S : FT) (K : Option Value → FT → Prop) : sp_X6_foresee [.ref 0, .int m, .int w] S K = ((S.good) ∧ K (some (.int (if okFore m w = false then -1000001 else (S.now.mins m.toNatClampNeg).seen w))) (if okFore m w = true then S.sTrial (S.now.mins m.toNatClampNeg) else S)) := rfl
theorem spok_X6_foresee : SpOk yX6_foresee cX6_foresee 4 (some .int) 5 fpW sp_X6_foresee := by
  intro av S K h
  unfold sp_X6_foresee at h
  split at h
  · rename_i m w; exact ⟨some (.int (if okFore m w = false then -1000001 else (S.now.mins m.toNatClampNeg).seen w)), if okFore m w = true then S.sTrial (S.now.mins m.toNatClampNeg) else S, trivial, con_X6_foresee S m w h.1, h.2⟩
  · exact h.elim
