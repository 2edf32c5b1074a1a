/-! ===== FieldPumps: passing, foreseeing, orders ===== -/
theorem ST.mins_succ (S : ST) (k : Nat) : S.mins (k + 1) = (S.mins k).minute := by
  unfold ST.mins
  rw [it]
/-- a count that a loop runs to -/
theorem lps {m : Int32} {i n : Nat} (e : m = nI n) (hn : n < 100000) (h : i < n) : nI i < m ∧ nI i + 1 = nI (i + 1) := by
  subst e
  exact ⟨nI_lt h (by omega), nI_1 i⟩
theorem lpe {m : Int32} {n : Nat} (e : m = nI n) (hn : n < 100000) : ¬ nI n < m := by
  subst e
  exact nI_nlt (Nat.le_refl n) (by omega)
theorem inR_n {m a b : Int32} (h : inR m a b = true) (ha : ¬ a < 0) (hb : b.toInt < 100000) : m = nI m.toNatClampNeg ∧ m.toNatClampNeg < 100000 := by
  simp only [inR, decide_eq_true_eq] at h
  obtain ⟨h1, h2⟩ := h
  rw [Int32.lt_iff_toInt_lt] at ha h1 h2
  have ez : (0 : Int32).toInt = 0 := rfl
  have e : m.toNatClampNeg = m.toInt.toNat := rfl
  refine ⟨Int32.toInt_inj.mp ?_, by omega⟩
  rw [nI_toInt (by omega)]
  omega
def cod_X6_pass : List (Nat × Op FT) := [(0, O_iload 1 1), (1, O_int 1 1), (2, O_int 240 3), (5, O_callS 3 sp_X6_within), (8, O_if_ne 14), (11, O_int (-1000001) 2), (13, O_iret), (14, O_aload 0 1), (15, O_getf fpW 6 0), (18, O_getf fpW 4 5), (21, O_iload 1 1), (22, O_iadd), (23, O_int 20000 3), (26, O_icmp_le 32), (29, O_int (-1000003) 2), (31, O_iret), (32, O_aload 0 1), (33, O_callV 0 0 (fun S => S) (fun _ S' => S') sp_X6_remember), (36, O_int 0 1), (37, O_istore 2 1), (38, O_iload 2 1), (39, O_iload 1 1), (40, O_icmp_ge 56), (43, O_aload 0 1), (44, O_getf fpW 6 0), (47, O_callV 0 1 (fun S : FT => S.now) (fun S u => S.sNow u) sp_X4_runMinute), (50, O_iinc 2 1), (53, O_goto 38), (56, O_aload 0 1), (57, O_getf fpW 6 0), (60, O_getf fpW 4 5), (63, O_iret)]
abbrev cut_X6_pass : List Nat := [38]
set_option maxRecDepth 100000 in
theorem okc_X6_pass {E : En} (F : Fx E RX6 cX6_pass 3 5) (G : Fr E (some .int)) : CodOk E fpW cod_X6_pass := by
  unfold CodOk cod_X6_pass
  refine List.forall_mem_cons.mpr ⟨ok_iload_n F dX6_pass_0 rfl (by decide), ?_⟩
  refine List.forall_mem_cons.mpr ⟨ok_iconst F dX6_pass_1 (by decide) (by decide), ?_⟩
  refine List.forall_mem_cons.mpr ⟨ok_sipush F dX6_pass_2 (by decide) (by decide), ?_⟩
  refine List.forall_mem_cons.mpr ⟨ok_callS F spok_X6_within (by decide +kernel) rfl (by decide) dX6_pass_5 (by decide), ?_⟩
  refine List.forall_mem_cons.mpr ⟨ok_if_ne F dX6_pass_8 (by decide) (by decide) (by decide), ?_⟩
  refine List.forall_mem_cons.mpr ⟨ok_ldc F (ix := 41) (wsHas_mem (l := [Jvm.Cond.constant RX6 41 (-1000001)]) (by decide +kernel) (by simp)) dX6_pass_11 (by decide), ?_⟩
  refine List.forall_mem_cons.mpr ⟨ok_iret F G dX6_pass_13 (by decide), ?_⟩
  refine List.forall_mem_cons.mpr ⟨ok_aload_n F dX6_pass_14 rfl (by decide), ?_⟩
  refine List.forall_mem_cons.mpr ⟨ok_getf F flX6_10 dX6_pass_15 (by decide), ?_⟩
  refine List.forall_mem_cons.mpr ⟨ok_getf F flX6_159 dX6_pass_18 (by decide), ?_⟩
  refine List.forall_mem_cons.mpr ⟨ok_iload_n F dX6_pass_21 rfl (by decide), ?_⟩
  refine List.forall_mem_cons.mpr ⟨ok_iadd F dX6_pass_22 (by decide), ?_⟩
  refine List.forall_mem_cons.mpr ⟨ok_sipush F dX6_pass_23 (by decide) (by decide), ?_⟩
  refine List.forall_mem_cons.mpr ⟨ok_icmp_le F dX6_pass_26 (by decide) (by decide) (by decide), ?_⟩
  refine List.forall_mem_cons.mpr ⟨ok_ldc F (ix := 58) (wsHas_mem (l := [Jvm.Cond.constant RX6 58 (-1000003)]) (by decide +kernel) (by simp)) dX6_pass_29 (by decide), ?_⟩
  refine List.forall_mem_cons.mpr ⟨ok_iret F G dX6_pass_31 (by decide), ?_⟩
  refine List.forall_mem_cons.mpr ⟨ok_aload_n F dX6_pass_32 rfl (by decide), ?_⟩
  refine List.forall_mem_cons.mpr ⟨ok_callV F spok_X6_remember (ln_id fpW) rcv_fpW (by decide +kernel) (by decide) dX6_pass_33 (by decide), ?_⟩
  refine List.forall_mem_cons.mpr ⟨ok_iconst F dX6_pass_36 (by decide) (by decide), ?_⟩
  refine List.forall_mem_cons.mpr ⟨ok_istore_n F dX6_pass_37 rfl (by decide) (by decide), ?_⟩
  refine List.forall_mem_cons.mpr ⟨ok_iload_n F dX6_pass_38 rfl (by decide), ?_⟩
  refine List.forall_mem_cons.mpr ⟨ok_iload_n F dX6_pass_39 rfl (by decide), ?_⟩
  refine List.forall_mem_cons.mpr ⟨ok_icmp_ge F dX6_pass_40 (by decide) (by decide) (by decide), ?_⟩
  refine List.forall_mem_cons.mpr ⟨ok_aload_n F dX6_pass_43 rfl (by decide), ?_⟩
  refine List.forall_mem_cons.mpr ⟨ok_getf F flX6_10 dX6_pass_44 (by decide), ?_⟩
  refine List.forall_mem_cons.mpr ⟨ok_callV F spok_X4_runMinute ln_fp_now rcv_stW (by decide +kernel) (by decide) dX6_pass_47 (by decide), ?_⟩
  refine List.forall_mem_cons.mpr ⟨ok_iinc F dX6_pass_50 (by decide) (by decide) (by decide), ?_⟩
  refine List.forall_mem_cons.mpr ⟨ok_goto F dX6_pass_53 (by decide) (by decide) (by decide), ?_⟩
  refine List.forall_mem_cons.mpr ⟨ok_aload_n F dX6_pass_56 rfl (by decide), ?_⟩
  refine List.forall_mem_cons.mpr ⟨ok_getf F flX6_10 dX6_pass_57 (by decide), ?_⟩
  refine List.forall_mem_cons.mpr ⟨ok_getf F flX6_159 dX6_pass_60 (by decide), ?_⟩
  refine List.forall_mem_cons.mpr ⟨ok_iret F G dX6_pass_63 (by decide), ?_⟩
  exact fun _ h => absurd h List.not_mem_nil
set_option maxRecDepth 100000 in
theorem w_X6_pass : (∀ (K : Kt FT) (n : Nat) (L : xL) (st : List Value) (S : FT), nx cod_X6_pass cut_X6_pass K (n + 1) 0 L st S = (O_iload 1 1) (nx cod_X6_pass cut_X6_pass K n) 0 L st S) ∧
  (∀ (K : Kt FT) (n : Nat) (L : xL) (st : List Value) (S : FT), nx cod_X6_pass cut_X6_pass K (n + 1) 1 L st S = (O_int 1 1) (nx cod_X6_pass cut_X6_pass K n) 1 L st S) ∧
  (∀ (K : Kt FT) (n : Nat) (L : xL) (st : List Value) (S : FT), nx cod_X6_pass cut_X6_pass K (n + 1) 2 L st S = (O_int 240 3) (nx cod_X6_pass cut_X6_pass K n) 2 L st S) ∧
  (∀ (K : Kt FT) (n : Nat) (L : xL) (st : List Value) (S : FT), nx cod_X6_pass cut_X6_pass K (n + 1) 5 L st S = (O_callS 3 sp_X6_within) (nx cod_X6_pass cut_X6_pass K n) 5 L st S) ∧
  (∀ (K : Kt FT) (n : Nat) (L : xL) (st : List Value) (S : FT), nx cod_X6_pass cut_X6_pass K (n + 1) 8 L st S = (O_if_ne 14) (nx cod_X6_pass cut_X6_pass K n) 8 L st S) ∧
  (∀ (K : Kt FT) (n : Nat) (L : xL) (st : List Value) (S : FT), nx cod_X6_pass cut_X6_pass K (n + 1) 11 L st S = (O_int (-1000001) 2) (nx cod_X6_pass cut_X6_pass K n) 11 L st S) ∧
  (∀ (K : Kt FT) (n : Nat) (L : xL) (st : List Value) (S : FT), nx cod_X6_pass cut_X6_pass K (n + 1) 13 L st S = (O_iret) (nx cod_X6_pass cut_X6_pass K n) 13 L st S) ∧
  (∀ (K : Kt FT) (n : Nat) (L : xL) (st : List Value) (S : FT), nx cod_X6_pass cut_X6_pass K (n + 1) 14 L st S = (O_aload 0 1) (nx cod_X6_pass cut_X6_pass K n) 14 L st S) ∧
  (∀ (K : Kt FT) (n : Nat) (L : xL) (st : List Value) (S : FT), nx cod_X6_pass cut_X6_pass K (n + 1) 15 L st S = (O_getf fpW 6 0) (nx cod_X6_pass cut_X6_pass K n) 15 L st S) ∧
  (∀ (K : Kt FT) (n : Nat) (L : xL) (st : List Value) (S : FT), nx cod_X6_pass cut_X6_pass K (n + 1) 18 L st S = (O_getf fpW 4 5) (nx cod_X6_pass cut_X6_pass K n) 18 L st S) ∧
  (∀ (K : Kt FT) (n : Nat) (L : xL) (st : List Value) (S : FT), nx cod_X6_pass cut_X6_pass K (n + 1) 21 L st S = (O_iload 1 1) (nx cod_X6_pass cut_X6_pass K n) 21 L st S) ∧
  (∀ (K : Kt FT) (n : Nat) (L : xL) (st : List Value) (S : FT), nx cod_X6_pass cut_X6_pass K (n + 1) 22 L st S = (O_iadd) (nx cod_X6_pass cut_X6_pass K n) 22 L st S) ∧
  (∀ (K : Kt FT) (n : Nat) (L : xL) (st : List Value) (S : FT), nx cod_X6_pass cut_X6_pass K (n + 1) 23 L st S = (O_int 20000 3) (nx cod_X6_pass cut_X6_pass K n) 23 L st S) ∧
  (∀ (K : Kt FT) (n : Nat) (L : xL) (st : List Value) (S : FT), nx cod_X6_pass cut_X6_pass K (n + 1) 26 L st S = (O_icmp_le 32) (nx cod_X6_pass cut_X6_pass K n) 26 L st S) ∧
  (∀ (K : Kt FT) (n : Nat) (L : xL) (st : List Value) (S : FT), nx cod_X6_pass cut_X6_pass K (n + 1) 29 L st S = (O_int (-1000003) 2) (nx cod_X6_pass cut_X6_pass K n) 29 L st S) ∧
  (∀ (K : Kt FT) (n : Nat) (L : xL) (st : List Value) (S : FT), nx cod_X6_pass cut_X6_pass K (n + 1) 31 L st S = (O_iret) (nx cod_X6_pass cut_X6_pass K n) 31 L st S) ∧
  (∀ (K : Kt FT) (n : Nat) (L : xL) (st : List Value) (S : FT), nx cod_X6_pass cut_X6_pass K (n + 1) 32 L st S = (O_aload 0 1) (nx cod_X6_pass cut_X6_pass K n) 32 L st S) ∧
  (∀ (K : Kt FT) (n : Nat) (L : xL) (st : List Value) (S : FT), nx cod_X6_pass cut_X6_pass K (n + 1) 33 L st S = (O_callV 0 0 (fun S => S) (fun _ S' => S') sp_X6_remember) (nx cod_X6_pass cut_X6_pass K n) 33 L st S) ∧
  (∀ (K : Kt FT) (n : Nat) (L : xL) (st : List Value) (S : FT), nx cod_X6_pass cut_X6_pass K (n + 1) 36 L st S = (O_int 0 1) (nx cod_X6_pass cut_X6_pass K n) 36 L st S) ∧
  (∀ (K : Kt FT) (n : Nat) (L : xL) (st : List Value) (S : FT), nx cod_X6_pass cut_X6_pass K (n + 1) 37 L st S = (O_istore 2 1) (nx cod_X6_pass cut_X6_pass K n) 37 L st S) ∧
  (∀ (K : Kt FT) (n : Nat) (L : xL) (st : List Value) (S : FT), nx cod_X6_pass cut_X6_pass K (n + 1) 38 L st S = K 38 L st S) ∧
  (∀ (K : Kt FT) (n : Nat) (L : xL) (st : List Value) (S : FT), nx1 cod_X6_pass cut_X6_pass K n 38 L st S = (O_iload 2 1) (nx cod_X6_pass cut_X6_pass K n) 38 L st S) ∧
  (∀ (K : Kt FT) (n : Nat) (L : xL) (st : List Value) (S : FT), nx cod_X6_pass cut_X6_pass K (n + 1) 39 L st S = (O_iload 1 1) (nx cod_X6_pass cut_X6_pass K n) 39 L st S) ∧
  (∀ (K : Kt FT) (n : Nat) (L : xL) (st : List Value) (S : FT), nx cod_X6_pass cut_X6_pass K (n + 1) 40 L st S = (O_icmp_ge 56) (nx cod_X6_pass cut_X6_pass K n) 40 L st S) ∧
  (∀ (K : Kt FT) (n : Nat) (L : xL) (st : List Value) (S : FT), nx cod_X6_pass cut_X6_pass K (n + 1) 43 L st S = (O_aload 0 1) (nx cod_X6_pass cut_X6_pass K n) 43 L st S) ∧
  (∀ (K : Kt FT) (n : Nat) (L : xL) (st : List Value) (S : FT), nx cod_X6_pass cut_X6_pass K (n + 1) 44 L st S = (O_getf fpW 6 0) (nx cod_X6_pass cut_X6_pass K n) 44 L st S) ∧
  (∀ (K : Kt FT) (n : Nat) (L : xL) (st : List Value) (S : FT), nx cod_X6_pass cut_X6_pass K (n + 1) 47 L st S = (O_callV 0 1 (fun S : FT => S.now) (fun S u => S.sNow u) sp_X4_runMinute) (nx cod_X6_pass cut_X6_pass K n) 47 L st S) ∧
  (∀ (K : Kt FT) (n : Nat) (L : xL) (st : List Value) (S : FT), nx cod_X6_pass cut_X6_pass K (n + 1) 50 L st S = (O_iinc 2 1) (nx cod_X6_pass cut_X6_pass K n) 50 L st S) ∧
  (∀ (K : Kt FT) (n : Nat) (L : xL) (st : List Value) (S : FT), nx cod_X6_pass cut_X6_pass K (n + 1) 53 L st S = (O_goto 38) (nx cod_X6_pass cut_X6_pass K n) 53 L st S) ∧
  (∀ (K : Kt FT) (n : Nat) (L : xL) (st : List Value) (S : FT), nx cod_X6_pass cut_X6_pass K (n + 1) 56 L st S = (O_aload 0 1) (nx cod_X6_pass cut_X6_pass K n) 56 L st S) ∧
  (∀ (K : Kt FT) (n : Nat) (L : xL) (st : List Value) (S : FT), nx cod_X6_pass cut_X6_pass K (n + 1) 57 L st S = (O_getf fpW 6 0) (nx cod_X6_pass cut_X6_pass K n) 57 L st S) ∧
  (∀ (K : Kt FT) (n : Nat) (L : xL) (st : List Value) (S : FT), nx cod_X6_pass cut_X6_pass K (n + 1) 60 L st S = (O_getf fpW 4 5) (nx cod_X6_pass cut_X6_pass K n) 60 L st S) ∧
  (∀ (K : Kt FT) (n : Nat) (L : xL) (st : List Value) (S : FT), nx cod_X6_pass cut_X6_pass K (n + 1) 63 L st S = (O_iret) (nx cod_X6_pass cut_X6_pass K n) 63 L st S) ∧
  (∀ (K : Kt FT) (n : Nat) (L : xL) (st : List Value) (S : FT), nx cod_X6_pass cut_X6_pass K (n + 1) 100000 L st S = K 100000 L st S) := by
  repeat' apply And.intro
  all_goals (intros; rfl)
set_option maxRecDepth 100000 in
theorem mk_X6_pass {P P' : FT} {r : Option Value} {p0 : Int32} (body : ∀ E : En, CodOk E fpW cod_X6_pass → Gd E fpW 100000 [] r.toList P' → Gd E fpW 0 [some (.ref 0), some (.int p0), none] [] P) : Con yX6_pass cX6_pass 3 (some .int) 5 fpW [.ref 0, .int p0] P r P' :=
  Con.of (by decide) rfl rfl (Nat.le_of_ble_eq_true rfl) (fun E F G hr => body E (okc_X6_pass F G) hr)
set_option maxRecDepth 10000 in
theorem con_X6_pass (S : FT) (m : Int32) (hp : S.good) : Con yX6_pass cX6_pass 3 (some .int) 5 fpW [.ref 0, .int m] S (some (.int (if inR m 1 240 = false then -1000001 else if 20000 < S.now.time + m then -1000003 else (S.now.mins m.toNatClampNeg).time))) (if inR m 1 240 = true ∧ ¬ 20000 < S.now.time + m then S.remember.sNow (S.now.mins m.toNatClampNeg) else S) := by
  refine mk_X6_pass (fun E C hr => ?_)
  have h1 := hp.1
  have h2 := hp.2.1
  clear hp
  have key : inR m 1 240 = true → ¬ 20000 < S.now.time + m → Gd E fpW 38 [some (.ref 0), some (.int m), some (.int (nI 0))] [] S.remember := by
    intro hc ht
    obtain ⟨hm, hb⟩ := inR_n hc (by decide) (by decide)
    have hz : Gd E fpW 38 [some (.ref 0), some (.int m), some (.int (nI 0))] [] (S.remember.sNow S.now) := by
      refine it_up (f := fun _ T => ST.minute T) (a := S.now) (n := m.toNatClampNeg) (fun _ T => T.okk) (fun i T => Gd E fpW 38 [some (.ref 0), some (.int m), some (.int (nI i))] [] (S.remember.sNow T)) h2 (fun i T hi hT => ST.minute_okk hT) (fun i T hi hT hn => ?_) ?_
      · have hx := lps hm hb hi
        clear hm hb
        have hk := hT.1
        (refine nx1_ok C cut_X6_pass 1000 ?_; simp only [w_X6_pass, ops_eq, xst_eq, call_eq, oK_eq, Option.toList_some, Option.toList_none, List.cons_append, List.nil_append, List.length_cons, List.length_nil, true_and, and_true, Nat.reduceAdd, fpW_F, fpW_A, fpW_S, fpW_P, FT_id, ST_id, FT_gs, ST_gs, PT_gs, ZT_gs, NT_gs, ET_gs, OT_gs, se_X6_within, se_X6_remember, se_X4_runMinute, hx, hk])
        ((repeat' (with_reducible first | apply And.intro | intro _)) <;> simp_all [FT_id, ST_id, FT_gs, ST_gs, PT_gs, ZT_gs, NT_gs, ET_gs, OT_gs])
      · have hx := lpe hm hb
        clear hm hb
        (refine nx1_ok C cut_X6_pass 1000 ?_; simp only [w_X6_pass, ops_eq, xst_eq, call_eq, oK_eq, Option.toList_some, Option.toList_none, List.cons_append, List.nil_append, List.length_cons, List.length_nil, true_and, and_true, Nat.reduceAdd, fpW_F, fpW_A, fpW_S, fpW_P, FT_id, ST_id, FT_gs, ST_gs, PT_gs, ZT_gs, NT_gs, ET_gs, OT_gs, se_X6_within, se_X6_remember, se_X4_runMinute, hx])
        ((repeat' (with_reducible first | apply And.intro | intro _)) <;> simp_all [ST.mins, FT_id, ST_id, FT_gs, ST_gs, PT_gs, ZT_gs, NT_gs, ET_gs, OT_gs])
    rw [rmb_id] at hz
    exact hz
  have h3 := h2.2
  (refine nx_ok C (cuts := cut_X6_pass) 1000 _ _ _ _ ?_; simp only [w_X6_pass, ops_eq, xst_eq, call_eq, oK_eq, Option.toList_some, Option.toList_none, List.cons_append, List.nil_append, List.length_cons, List.length_nil, true_and, and_true, Nat.reduceAdd, fpW_F, fpW_A, fpW_S, fpW_P, FT_id, ST_id, FT_gs, ST_gs, PT_gs, ZT_gs, NT_gs, ET_gs, OT_gs, se_X6_within, se_X6_remember, se_X4_runMinute, bI_eq, rmb_eq, h1, h3])
  ((repeat' (with_reducible first | apply And.intro | intro _)) <;> simp_all [nI_0, FT_id, ST_id, FT_gs, ST_gs, PT_gs, ZT_gs, NT_gs, ET_gs, OT_gs])
def sp_X6_pass : Sp FT := fun av S K => match av with
  | [.ref 0, .int m] => (S.good) ∧ K (some (.int (if inR m 1 240 = false then -1000001 else if 20000 < S.now.time + m then -1000003 else (S.now.mins m.toNatClampNeg).time))) (if inR m 1 240 = true ∧ ¬ 20000 < S.now.time + m then S.remember.sNow (S.now.mins m.toNatClampNeg) else S)
  | _ => False
theorem se_X6_pass (m : Int32) (S : FT) (K : Option Value → FT → Prop) : sp_X6_pass [.ref 0, .int m] S K = ((S.good) ∧ K (some (.int (if inR m 1 240 = false then -1000001 else if 20000 < S.now.time + m then -1000003 else (S.now.mins m.toNatClampNeg).time))) (if inR m 1 240 = true ∧ ¬ 20000 < S.now.time + m then S.remember.sNow (S.now.mins m.toNatClampNeg) else S)) := rfl
theorem spok_X6_pass : SpOk yX6_pass cX6_pass 3 (some .int) 5 fpW sp_X6_pass := by
  intro av S K h
  unfold sp_X6_pass at h
  split at h
  · rename_i m; exact ⟨some (.int (if inR m 1 240 = false then -1000001 else if 20000 < S.now.time + m then -1000003 else (S.now.mins m.toNatClampNeg).time)), if inR m 1 240 = true ∧ ¬ 20000 < S.now.time + m then S.remember.sNow (S.now.mins m.toNatClampNeg) else S, trivial, con_X6_pass S m h.1, h.2⟩
  · exact h.elim
def ST.seen (S : ST) (w : Int32) : Int32 := if w = 0 then S.pressure else if w = 1 then S.level else if w = 2 then S.P.running else if w = 3 then (if S.P.vrb = -1 then -1000004 else S.P.vrb) else S.supply
def okFore (m w : Int32) : Bool := inR m 1 1440 && inR w 0 4
theorem flX6_16 : fldOk RX6 16 6 1 = true := by decide +kernel
def cod_X6_foresee : List (Nat × Op FT) := [(0, O_iload 1 1), (1, O_int 1 1), (2, O_int 1440 3), (5, O_callS 3 sp_X6_within), (8, O_if_eq 20), (11, O_iload 2 1), (12, O_int 0 1), (13, O_int 4 1), (14, O_callS 3 sp_X6_within), (17, O_if_ne 23), (20, O_int (-1000001) 2), (22, O_iret), (23, O_aload 0 1), (24, O_getf fpW 6 1), (27, O_aload 0 1), (28, O_getf fpW 6 0), (31, O_callC 25 1 24 (fun S : FT => (S.trial, S.now)) (fun S u => (S.sTrial u.1).sNow u.2) sp_X4_copyFrom), (34, O_int 0 1), (35, O_istore 3 1), (36, O_iload 3 1), (37, O_iload 1 1), (38, O_icmp_ge 54), (41, O_aload 0 1), (42, O_getf fpW 6 1), (45, O_callV 0 25 (fun S : FT => S.trial) (fun S u => S.sTrial u) sp_X4_runMinute), (48, O_iinc 3 1), (51, O_goto 36), (54, O_iload 2 1), (55, O_switch [(0, 84), (1, 92), (2, 100), (3, 111)] 141), (84, O_aload 0 1), (85, O_getf fpW 6 1), (88, O_getf fpW 4 6), (91, O_iret), (92, O_aload 0 1), (93, O_getf fpW 6 1), (96, O_getf fpW 4 7), (99, O_iret), (100, O_aload 0 1), (101, O_getf fpW 6 1), (104, O_getf fpW 4 1), (107, O_callV 0 27 (fun S : FT => S.trial.P) (fun S u => S.sTrial (S.trial.sP u)) sp_X3_running), (110, O_iret), (111, O_aload 0 1), (112, O_getf fpW 6 1), (115, O_getf fpW 4 1), (118, O_getf fpW 3 9), (121, O_int (-1) 1), (122, O_icmp_ne 130), (125, O_int (-1000004) 2), (127, O_goto 140), (130, O_aload 0 1), (131, O_getf fpW 6 1), (134, O_getf fpW 4 1), (137, O_getf fpW 3 9), (140, O_iret), (141, O_aload 0 1), (142, O_getf fpW 6 1), (145, O_getf fpW 4 9), (148, O_iret)]
abbrev cut_X6_foresee : List Nat := [36, 54]
set_option maxRecDepth 100000 in
theorem okc_X6_foresee {E : En} (F : Fx E RX6 cX6_foresee 4 5) (G : Fr E (some .int)) : CodOk E fpW cod_X6_foresee := by
  unfold CodOk cod_X6_foresee
  refine List.forall_mem_cons.mpr ⟨ok_iload_n F dX6_foresee_0 rfl (by decide), ?_⟩
  refine List.forall_mem_cons.mpr ⟨ok_iconst F dX6_foresee_1 (by decide) (by decide), ?_⟩
  refine List.forall_mem_cons.mpr ⟨ok_sipush F dX6_foresee_2 (by decide) (by decide), ?_⟩
  refine List.forall_mem_cons.mpr ⟨ok_callS F spok_X6_within (by decide +kernel) rfl (by decide) dX6_foresee_5 (by decide), ?_⟩
  refine List.forall_mem_cons.mpr ⟨ok_if_eq F dX6_foresee_8 (by decide) (by decide) (by decide), ?_⟩
  refine List.forall_mem_cons.mpr ⟨ok_iload_n F dX6_foresee_11 rfl (by decide), ?_⟩
  refine List.forall_mem_cons.mpr ⟨ok_iconst F dX6_foresee_12 (by decide) (by decide), ?_⟩
  refine List.forall_mem_cons.mpr ⟨ok_iconst F dX6_foresee_13 (by decide) (by decide), ?_⟩
  refine List.forall_mem_cons.mpr ⟨ok_callS F spok_X6_within (by decide +kernel) rfl (by decide) dX6_foresee_14 (by decide), ?_⟩
  refine List.forall_mem_cons.mpr ⟨ok_if_ne F dX6_foresee_17 (by decide) (by decide) (by decide), ?_⟩
  refine List.forall_mem_cons.mpr ⟨ok_ldc F (ix := 41) (wsHas_mem (l := [Jvm.Cond.constant RX6 41 (-1000001)]) (by decide +kernel) (by simp)) dX6_foresee_20 (by decide), ?_⟩
  refine List.forall_mem_cons.mpr ⟨ok_iret F G dX6_foresee_22 (by decide), ?_⟩
  refine List.forall_mem_cons.mpr ⟨ok_aload_n F dX6_foresee_23 rfl (by decide), ?_⟩
  refine List.forall_mem_cons.mpr ⟨ok_getf F flX6_16 dX6_foresee_24 (by decide), ?_⟩
  refine List.forall_mem_cons.mpr ⟨ok_aload_n F dX6_foresee_27 rfl (by decide), ?_⟩
  refine List.forall_mem_cons.mpr ⟨ok_getf F flX6_10 dX6_foresee_28 (by decide), ?_⟩
  refine List.forall_mem_cons.mpr ⟨ok_callC F (by decide) spok_X4_copyFrom ln2_fp_trial_now rcv_stW (by decide +kernel) (by decide) dX6_foresee_31 (by decide), ?_⟩
  refine List.forall_mem_cons.mpr ⟨ok_iconst F dX6_foresee_34 (by decide) (by decide), ?_⟩
  refine List.forall_mem_cons.mpr ⟨ok_istore_n F dX6_foresee_35 rfl (by decide) (by decide), ?_⟩
  refine List.forall_mem_cons.mpr ⟨ok_iload_n F dX6_foresee_36 rfl (by decide), ?_⟩
  refine List.forall_mem_cons.mpr ⟨ok_iload_n F dX6_foresee_37 rfl (by decide), ?_⟩
  refine List.forall_mem_cons.mpr ⟨ok_icmp_ge F dX6_foresee_38 (by decide) (by decide) (by decide), ?_⟩
  refine List.forall_mem_cons.mpr ⟨ok_aload_n F dX6_foresee_41 rfl (by decide), ?_⟩
  refine List.forall_mem_cons.mpr ⟨ok_getf F flX6_16 dX6_foresee_42 (by decide), ?_⟩
  refine List.forall_mem_cons.mpr ⟨ok_callV F spok_X4_runMinute ln_fp_trial rcv_stW (by decide +kernel) (by decide) dX6_foresee_45 (by decide), ?_⟩
  refine List.forall_mem_cons.mpr ⟨ok_iinc F dX6_foresee_48 (by decide) (by decide) (by decide), ?_⟩
  refine List.forall_mem_cons.mpr ⟨ok_goto F dX6_foresee_51 (by decide) (by decide) (by decide), ?_⟩
  refine List.forall_mem_cons.mpr ⟨ok_iload_n F dX6_foresee_54 rfl (by decide), ?_⟩
  refine List.forall_mem_cons.mpr ⟨ok_table F dX6_foresee_55 (by decide +kernel) (by decide), ?_⟩
  refine List.forall_mem_cons.mpr ⟨ok_aload_n F dX6_foresee_84 rfl (by decide), ?_⟩
  refine List.forall_mem_cons.mpr ⟨ok_getf F flX6_16 dX6_foresee_85 (by decide), ?_⟩
  refine List.forall_mem_cons.mpr ⟨ok_getf F flX6_100 dX6_foresee_88 (by decide), ?_⟩
  refine List.forall_mem_cons.mpr ⟨ok_iret F G dX6_foresee_91 (by decide), ?_⟩
  refine List.forall_mem_cons.mpr ⟨ok_aload_n F dX6_foresee_92 rfl (by decide), ?_⟩
  refine List.forall_mem_cons.mpr ⟨ok_getf F flX6_16 dX6_foresee_93 (by decide), ?_⟩
  refine List.forall_mem_cons.mpr ⟨ok_getf F flX6_150 dX6_foresee_96 (by decide), ?_⟩
  refine List.forall_mem_cons.mpr ⟨ok_iret F G dX6_foresee_99 (by decide), ?_⟩
  refine List.forall_mem_cons.mpr ⟨ok_aload_n F dX6_foresee_100 rfl (by decide), ?_⟩
  refine List.forall_mem_cons.mpr ⟨ok_getf F flX6_16 dX6_foresee_101 (by decide), ?_⟩
  refine List.forall_mem_cons.mpr ⟨ok_getf F flX6_50 dX6_foresee_104 (by decide), ?_⟩
  refine List.forall_mem_cons.mpr ⟨ok_callV F spok_X3_running ln_fp_trial_P rcv_pW (by decide +kernel) (by decide) dX6_foresee_107 (by decide), ?_⟩
  refine List.forall_mem_cons.mpr ⟨ok_iret F G dX6_foresee_110 (by decide), ?_⟩
  refine List.forall_mem_cons.mpr ⟨ok_aload_n F dX6_foresee_111 rfl (by decide), ?_⟩
  refine List.forall_mem_cons.mpr ⟨ok_getf F flX6_16 dX6_foresee_112 (by decide), ?_⟩
  refine List.forall_mem_cons.mpr ⟨ok_getf F flX6_50 dX6_foresee_115 (by decide), ?_⟩
  refine List.forall_mem_cons.mpr ⟨ok_getf F flX6_88 dX6_foresee_118 (by decide), ?_⟩
  refine List.forall_mem_cons.mpr ⟨ok_iconst F dX6_foresee_121 (by decide) (by decide), ?_⟩
  refine List.forall_mem_cons.mpr ⟨ok_icmp_ne F dX6_foresee_122 (by decide) (by decide) (by decide), ?_⟩
  refine List.forall_mem_cons.mpr ⟨ok_ldc F (ix := 110) (wsHas_mem (l := [Jvm.Cond.constant RX6 110 (-1000004)]) (by decide +kernel) (by simp)) dX6_foresee_125 (by decide), ?_⟩
  refine List.forall_mem_cons.mpr ⟨ok_goto F dX6_foresee_127 (by decide) (by decide) (by decide), ?_⟩
  refine List.forall_mem_cons.mpr ⟨ok_aload_n F dX6_foresee_130 rfl (by decide), ?_⟩
  refine List.forall_mem_cons.mpr ⟨ok_getf F flX6_16 dX6_foresee_131 (by decide), ?_⟩
  refine List.forall_mem_cons.mpr ⟨ok_getf F flX6_50 dX6_foresee_134 (by decide), ?_⟩
  refine List.forall_mem_cons.mpr ⟨ok_getf F flX6_88 dX6_foresee_137 (by decide), ?_⟩
  refine List.forall_mem_cons.mpr ⟨ok_iret F G dX6_foresee_140 (by decide), ?_⟩
  refine List.forall_mem_cons.mpr ⟨ok_aload_n F dX6_foresee_141 rfl (by decide), ?_⟩
  refine List.forall_mem_cons.mpr ⟨ok_getf F flX6_16 dX6_foresee_142 (by decide), ?_⟩
  refine List.forall_mem_cons.mpr ⟨ok_getf F flX6_172 dX6_foresee_145 (by decide), ?_⟩
  refine List.forall_mem_cons.mpr ⟨ok_iret F G dX6_foresee_148 (by decide), ?_⟩
  exact fun _ h => absurd h List.not_mem_nil
set_option maxRecDepth 100000 in
theorem w_X6_foresee : (∀ (K : Kt FT) (n : Nat) (L : xL) (st : List Value) (S : FT), nx cod_X6_foresee cut_X6_foresee K (n + 1) 0 L st S = (O_iload 1 1) (nx cod_X6_foresee cut_X6_foresee K n) 0 L st S) ∧
  (∀ (K : Kt FT) (n : Nat) (L : xL) (st : List Value) (S : FT), nx cod_X6_foresee cut_X6_foresee K (n + 1) 1 L st S = (O_int 1 1) (nx cod_X6_foresee cut_X6_foresee K n) 1 L st S) ∧
  (∀ (K : Kt FT) (n : Nat) (L : xL) (st : List Value) (S : FT), nx cod_X6_foresee cut_X6_foresee K (n + 1) 2 L st S = (O_int 1440 3) (nx cod_X6_foresee cut_X6_foresee K n) 2 L st S) ∧
  (∀ (K : Kt FT) (n : Nat) (L : xL) (st : List Value) (S : FT), nx cod_X6_foresee cut_X6_foresee K (n + 1) 5 L st S = (O_callS 3 sp_X6_within) (nx cod_X6_foresee cut_X6_foresee K n) 5 L st S) ∧
  (∀ (K : Kt FT) (n : Nat) (L : xL) (st : List Value) (S : FT), nx cod_X6_foresee cut_X6_foresee K (n + 1) 8 L st S = (O_if_eq 20) (nx cod_X6_foresee cut_X6_foresee K n) 8 L st S) ∧
  (∀ (K : Kt FT) (n : Nat) (L : xL) (st : List Value) (S : FT), nx cod_X6_foresee cut_X6_foresee K (n + 1) 11 L st S = (O_iload 2 1) (nx cod_X6_foresee cut_X6_foresee K n) 11 L st S) ∧
  (∀ (K : Kt FT) (n : Nat) (L : xL) (st : List Value) (S : FT), nx cod_X6_foresee cut_X6_foresee K (n + 1) 12 L st S = (O_int 0 1) (nx cod_X6_foresee cut_X6_foresee K n) 12 L st S) ∧
  (∀ (K : Kt FT) (n : Nat) (L : xL) (st : List Value) (S : FT), nx cod_X6_foresee cut_X6_foresee K (n + 1) 13 L st S = (O_int 4 1) (nx cod_X6_foresee cut_X6_foresee K n) 13 L st S) ∧
  (∀ (K : Kt FT) (n : Nat) (L : xL) (st : List Value) (S : FT), nx cod_X6_foresee cut_X6_foresee K (n + 1) 14 L st S = (O_callS 3 sp_X6_within) (nx cod_X6_foresee cut_X6_foresee K n) 14 L st S) ∧
  (∀ (K : Kt FT) (n : Nat) (L : xL) (st : List Value) (S : FT), nx cod_X6_foresee cut_X6_foresee K (n + 1) 17 L st S = (O_if_ne 23) (nx cod_X6_foresee cut_X6_foresee K n) 17 L st S) ∧
  (∀ (K : Kt FT) (n : Nat) (L : xL) (st : List Value) (S : FT), nx cod_X6_foresee cut_X6_foresee K (n + 1) 20 L st S = (O_int (-1000001) 2) (nx cod_X6_foresee cut_X6_foresee K n) 20 L st S) ∧
  (∀ (K : Kt FT) (n : Nat) (L : xL) (st : List Value) (S : FT), nx cod_X6_foresee cut_X6_foresee K (n + 1) 22 L st S = (O_iret) (nx cod_X6_foresee cut_X6_foresee K n) 22 L st S) ∧
  (∀ (K : Kt FT) (n : Nat) (L : xL) (st : List Value) (S : FT), nx cod_X6_foresee cut_X6_foresee K (n + 1) 23 L st S = (O_aload 0 1) (nx cod_X6_foresee cut_X6_foresee K n) 23 L st S) ∧
  (∀ (K : Kt FT) (n : Nat) (L : xL) (st : List Value) (S : FT), nx cod_X6_foresee cut_X6_foresee K (n + 1) 24 L st S = (O_getf fpW 6 1) (nx cod_X6_foresee cut_X6_foresee K n) 24 L st S) ∧
  (∀ (K : Kt FT) (n : Nat) (L : xL) (st : List Value) (S : FT), nx cod_X6_foresee cut_X6_foresee K (n + 1) 27 L st S = (O_aload 0 1) (nx cod_X6_foresee cut_X6_foresee K n) 27 L st S) ∧
  (∀ (K : Kt FT) (n : Nat) (L : xL) (st : List Value) (S : FT), nx cod_X6_foresee cut_X6_foresee K (n + 1) 28 L st S = (O_getf fpW 6 0) (nx cod_X6_foresee cut_X6_foresee K n) 28 L st S) ∧
  (∀ (K : Kt FT) (n : Nat) (L : xL) (st : List Value) (S : FT), nx cod_X6_foresee cut_X6_foresee K (n + 1) 31 L st S = (O_callC 25 1 24 (fun S : FT => (S.trial, S.now)) (fun S u => (S.sTrial u.1).sNow u.2) sp_X4_copyFrom) (nx cod_X6_foresee cut_X6_foresee K n) 31 L st S) ∧
  (∀ (K : Kt FT) (n : Nat) (L : xL) (st : List Value) (S : FT), nx cod_X6_foresee cut_X6_foresee K (n + 1) 34 L st S = (O_int 0 1) (nx cod_X6_foresee cut_X6_foresee K n) 34 L st S) ∧
  (∀ (K : Kt FT) (n : Nat) (L : xL) (st : List Value) (S : FT), nx cod_X6_foresee cut_X6_foresee K (n + 1) 35 L st S = (O_istore 3 1) (nx cod_X6_foresee cut_X6_foresee K n) 35 L st S) ∧
  (∀ (K : Kt FT) (n : Nat) (L : xL) (st : List Value) (S : FT), nx cod_X6_foresee cut_X6_foresee K (n + 1) 36 L st S = K 36 L st S) ∧
  (∀ (K : Kt FT) (n : Nat) (L : xL) (st : List Value) (S : FT), nx1 cod_X6_foresee cut_X6_foresee K n 36 L st S = (O_iload 3 1) (nx cod_X6_foresee cut_X6_foresee K n) 36 L st S) ∧
  (∀ (K : Kt FT) (n : Nat) (L : xL) (st : List Value) (S : FT), nx cod_X6_foresee cut_X6_foresee K (n + 1) 37 L st S = (O_iload 1 1) (nx cod_X6_foresee cut_X6_foresee K n) 37 L st S) ∧
  (∀ (K : Kt FT) (n : Nat) (L : xL) (st : List Value) (S : FT), nx cod_X6_foresee cut_X6_foresee K (n + 1) 38 L st S = (O_icmp_ge 54) (nx cod_X6_foresee cut_X6_foresee K n) 38 L st S) ∧
  (∀ (K : Kt FT) (n : Nat) (L : xL) (st : List Value) (S : FT), nx cod_X6_foresee cut_X6_foresee K (n + 1) 41 L st S = (O_aload 0 1) (nx cod_X6_foresee cut_X6_foresee K n) 41 L st S) ∧
  (∀ (K : Kt FT) (n : Nat) (L : xL) (st : List Value) (S : FT), nx cod_X6_foresee cut_X6_foresee K (n + 1) 42 L st S = (O_getf fpW 6 1) (nx cod_X6_foresee cut_X6_foresee K n) 42 L st S) ∧
  (∀ (K : Kt FT) (n : Nat) (L : xL) (st : List Value) (S : FT), nx cod_X6_foresee cut_X6_foresee K (n + 1) 45 L st S = (O_callV 0 25 (fun S : FT => S.trial) (fun S u => S.sTrial u) sp_X4_runMinute) (nx cod_X6_foresee cut_X6_foresee K n) 45 L st S) ∧
  (∀ (K : Kt FT) (n : Nat) (L : xL) (st : List Value) (S : FT), nx cod_X6_foresee cut_X6_foresee K (n + 1) 48 L st S = (O_iinc 3 1) (nx cod_X6_foresee cut_X6_foresee K n) 48 L st S) ∧
  (∀ (K : Kt FT) (n : Nat) (L : xL) (st : List Value) (S : FT), nx cod_X6_foresee cut_X6_foresee K (n + 1) 51 L st S = (O_goto 36) (nx cod_X6_foresee cut_X6_foresee K n) 51 L st S) ∧
  (∀ (K : Kt FT) (n : Nat) (L : xL) (st : List Value) (S : FT), nx cod_X6_foresee cut_X6_foresee K (n + 1) 54 L st S = K 54 L st S) ∧
  (∀ (K : Kt FT) (n : Nat) (L : xL) (st : List Value) (S : FT), nx1 cod_X6_foresee cut_X6_foresee K n 54 L st S = (O_iload 2 1) (nx cod_X6_foresee cut_X6_foresee K n) 54 L st S) ∧
  (∀ (K : Kt FT) (n : Nat) (L : xL) (st : List Value) (S : FT), nx cod_X6_foresee cut_X6_foresee K (n + 1) 55 L st S = (O_switch [(0, 84), (1, 92), (2, 100), (3, 111)] 141) (nx cod_X6_foresee cut_X6_foresee K n) 55 L st S) ∧
  (∀ (K : Kt FT) (n : Nat) (L : xL) (st : List Value) (S : FT), nx cod_X6_foresee cut_X6_foresee K (n + 1) 84 L st S = (O_aload 0 1) (nx cod_X6_foresee cut_X6_foresee K n) 84 L st S) ∧
  (∀ (K : Kt FT) (n : Nat) (L : xL) (st : List Value) (S : FT), nx cod_X6_foresee cut_X6_foresee K (n + 1) 85 L st S = (O_getf fpW 6 1) (nx cod_X6_foresee cut_X6_foresee K n) 85 L st S) ∧
  (∀ (K : Kt FT) (n : Nat) (L : xL) (st : List Value) (S : FT), nx cod_X6_foresee cut_X6_foresee K (n + 1) 88 L st S = (O_getf fpW 4 6) (nx cod_X6_foresee cut_X6_foresee K n) 88 L st S) ∧
  (∀ (K : Kt FT) (n : Nat) (L : xL) (st : List Value) (S : FT), nx cod_X6_foresee cut_X6_foresee K (n + 1) 91 L st S = (O_iret) (nx cod_X6_foresee cut_X6_foresee K n) 91 L st S) ∧
  (∀ (K : Kt FT) (n : Nat) (L : xL) (st : List Value) (S : FT), nx cod_X6_foresee cut_X6_foresee K (n + 1) 92 L st S = (O_aload 0 1) (nx cod_X6_foresee cut_X6_foresee K n) 92 L st S) ∧
  (∀ (K : Kt FT) (n : Nat) (L : xL) (st : List Value) (S : FT), nx cod_X6_foresee cut_X6_foresee K (n + 1) 93 L st S = (O_getf fpW 6 1) (nx cod_X6_foresee cut_X6_foresee K n) 93 L st S) ∧
  (∀ (K : Kt FT) (n : Nat) (L : xL) (st : List Value) (S : FT), nx cod_X6_foresee cut_X6_foresee K (n + 1) 96 L st S = (O_getf fpW 4 7) (nx cod_X6_foresee cut_X6_foresee K n) 96 L st S) ∧
  (∀ (K : Kt FT) (n : Nat) (L : xL) (st : List Value) (S : FT), nx cod_X6_foresee cut_X6_foresee K (n + 1) 99 L st S = (O_iret) (nx cod_X6_foresee cut_X6_foresee K n) 99 L st S) ∧
  (∀ (K : Kt FT) (n : Nat) (L : xL) (st : List Value) (S : FT), nx cod_X6_foresee cut_X6_foresee K (n + 1) 100 L st S = (O_aload 0 1) (nx cod_X6_foresee cut_X6_foresee K n) 100 L st S) ∧
  (∀ (K : Kt FT) (n : Nat) (L : xL) (st : List Value) (S : FT), nx cod_X6_foresee cut_X6_foresee K (n + 1) 101 L st S = (O_getf fpW 6 1) (nx cod_X6_foresee cut_X6_foresee K n) 101 L st S) ∧
  (∀ (K : Kt FT) (n : Nat) (L : xL) (st : List Value) (S : FT), nx cod_X6_foresee cut_X6_foresee K (n + 1) 104 L st S = (O_getf fpW 4 1) (nx cod_X6_foresee cut_X6_foresee K n) 104 L st S) ∧
  (∀ (K : Kt FT) (n : Nat) (L : xL) (st : List Value) (S : FT), nx cod_X6_foresee cut_X6_foresee K (n + 1) 107 L st S = (O_callV 0 27 (fun S : FT => S.trial.P) (fun S u => S.sTrial (S.trial.sP u)) sp_X3_running) (nx cod_X6_foresee cut_X6_foresee K n) 107 L st S) ∧
  (∀ (K : Kt FT) (n : Nat) (L : xL) (st : List Value) (S : FT), nx cod_X6_foresee cut_X6_foresee K (n + 1) 110 L st S = (O_iret) (nx cod_X6_foresee cut_X6_foresee K n) 110 L st S) ∧
  (∀ (K : Kt FT) (n : Nat) (L : xL) (st : List Value) (S : FT), nx cod_X6_foresee cut_X6_foresee K (n + 1) 111 L st S = (O_aload 0 1) (nx cod_X6_foresee cut_X6_foresee K n) 111 L st S) ∧
  (∀ (K : Kt FT) (n : Nat) (L : xL) (st : List Value) (S : FT), nx cod_X6_foresee cut_X6_foresee K (n + 1) 112 L st S = (O_getf fpW 6 1) (nx cod_X6_foresee cut_X6_foresee K n) 112 L st S) ∧
  (∀ (K : Kt FT) (n : Nat) (L : xL) (st : List Value) (S : FT), nx cod_X6_foresee cut_X6_foresee K (n + 1) 115 L st S = (O_getf fpW 4 1) (nx cod_X6_foresee cut_X6_foresee K n) 115 L st S) ∧
  (∀ (K : Kt FT) (n : Nat) (L : xL) (st : List Value) (S : FT), nx cod_X6_foresee cut_X6_foresee K (n + 1) 118 L st S = (O_getf fpW 3 9) (nx cod_X6_foresee cut_X6_foresee K n) 118 L st S) ∧
  (∀ (K : Kt FT) (n : Nat) (L : xL) (st : List Value) (S : FT), nx cod_X6_foresee cut_X6_foresee K (n + 1) 121 L st S = (O_int (-1) 1) (nx cod_X6_foresee cut_X6_foresee K n) 121 L st S) ∧
  (∀ (K : Kt FT) (n : Nat) (L : xL) (st : List Value) (S : FT), nx cod_X6_foresee cut_X6_foresee K (n + 1) 122 L st S = (O_icmp_ne 130) (nx cod_X6_foresee cut_X6_foresee K n) 122 L st S) ∧
  (∀ (K : Kt FT) (n : Nat) (L : xL) (st : List Value) (S : FT), nx cod_X6_foresee cut_X6_foresee K (n + 1) 125 L st S = (O_int (-1000004) 2) (nx cod_X6_foresee cut_X6_foresee K n) 125 L st S) ∧
  (∀ (K : Kt FT) (n : Nat) (L : xL) (st : List Value) (S : FT), nx cod_X6_foresee cut_X6_foresee K (n + 1) 127 L st S = (O_goto 140) (nx cod_X6_foresee cut_X6_foresee K n) 127 L st S) ∧
  (∀ (K : Kt FT) (n : Nat) (L : xL) (st : List Value) (S : FT), nx cod_X6_foresee cut_X6_foresee K (n + 1) 130 L st S = (O_aload 0 1) (nx cod_X6_foresee cut_X6_foresee K n) 130 L st S) ∧
  (∀ (K : Kt FT) (n : Nat) (L : xL) (st : List Value) (S : FT), nx cod_X6_foresee cut_X6_foresee K (n + 1) 131 L st S = (O_getf fpW 6 1) (nx cod_X6_foresee cut_X6_foresee K n) 131 L st S) ∧
  (∀ (K : Kt FT) (n : Nat) (L : xL) (st : List Value) (S : FT), nx cod_X6_foresee cut_X6_foresee K (n + 1) 134 L st S = (O_getf fpW 4 1) (nx cod_X6_foresee cut_X6_foresee K n) 134 L st S) ∧
  (∀ (K : Kt FT) (n : Nat) (L : xL) (st : List Value) (S : FT), nx cod_X6_foresee cut_X6_foresee K (n + 1) 137 L st S = (O_getf fpW 3 9) (nx cod_X6_foresee cut_X6_foresee K n) 137 L st S) ∧
  (∀ (K : Kt FT) (n : Nat) (L : xL) (st : List Value) (S : FT), nx cod_X6_foresee cut_X6_foresee K (n + 1) 140 L st S = (O_iret) (nx cod_X6_foresee cut_X6_foresee K n) 140 L st S) ∧
  (∀ (K : Kt FT) (n : Nat) (L : xL) (st : List Value) (S : FT), nx cod_X6_foresee cut_X6_foresee K (n + 1) 141 L st S = (O_aload 0 1) (nx cod_X6_foresee cut_X6_foresee K n) 141 L st S) ∧
  (∀ (K : Kt FT) (n : Nat) (L : xL) (st : List Value) (S : FT), nx cod_X6_foresee cut_X6_foresee K (n + 1) 142 L st S = (O_getf fpW 6 1) (nx cod_X6_foresee cut_X6_foresee K n) 142 L st S) ∧
  (∀ (K : Kt FT) (n : Nat) (L : xL) (st : List Value) (S : FT), nx cod_X6_foresee cut_X6_foresee K (n + 1) 145 L st S = (O_getf fpW 4 9) (nx cod_X6_foresee cut_X6_foresee K n) 145 L st S) ∧
  (∀ (K : Kt FT) (n : Nat) (L : xL) (st : List Value) (S : FT), nx cod_X6_foresee cut_X6_foresee K (n + 1) 148 L st S = (O_iret) (nx cod_X6_foresee cut_X6_foresee K n) 148 L st S) ∧
  (∀ (K : Kt FT) (n : Nat) (L : xL) (st : List Value) (S : FT), nx cod_X6_foresee cut_X6_foresee K (n + 1) 100000 L st S = K 100000 L st S) := by
  repeat' apply And.intro
  all_goals (intros; rfl)
set_option maxRecDepth 100000 in
theorem mk_X6_foresee {P P' : FT} {r : Option Value} {p0 : Int32} {p1 : Int32} (body : ∀ E : En, CodOk E fpW cod_X6_foresee → Gd E fpW 100000 [] r.toList P' → Gd E fpW 0 [some (.ref 0), some (.int p0), some (.int p1), none] [] P) : Con yX6_foresee cX6_foresee 4 (some .int) 5 fpW [.ref 0, .int p0, .int p1] P r P' :=
  Con.of (by decide) rfl rfl (Nat.le_of_ble_eq_true rfl) (fun E F G hr => body E (okc_X6_foresee F G) hr)
set_option maxRecDepth 10000 in
theorem con_X6_foresee (S : FT) (m : Int32) (w : Int32) (hp : S.good) : Con yX6_foresee cX6_foresee 4 (some .int) 5 fpW [.ref 0, .int m, .int w] S (some (.int (if okFore m w = false then -1000001 else (S.now.mins m.toNatClampNeg).seen w))) (if okFore m w = true then S.sTrial (S.now.mins m.toNatClampNeg) else S) := by
  refine mk_X6_foresee (fun E C hr => ?_)
  have h2 := hp.2.1
  clear hp
  have h3 := ST.mins_okk h2 m.toNatClampNeg
  have h4 := h3.1.1
  have h54 : okFore m w = true → Gd E fpW 54 [some (.ref 0), some (.int m), some (.int w), some (.int (nI m.toNatClampNeg))] [] (S.sTrial (S.now.mins m.toNatClampNeg)) := by
    intro hc
    rw [if_pos hc, if_neg (by rw [hc]; decide)] at hr
    (refine nx1_ok C cut_X6_foresee 1000 ?_; simp only [w_X6_foresee, ops_eq, xst_eq, call_eq, oK_eq, Option.toList_some, Option.toList_none, List.cons_append, List.nil_append, List.length_cons, List.length_nil, true_and, and_true, Nat.reduceAdd, fpW_F, fpW_A, fpW_S, fpW_P, FT_id, ST_id, FT_gs, ST_gs, PT_gs, ZT_gs, NT_gs, ET_gs, OT_gs, se_X6_within, se_X4_copyFrom, se_X4_runMinute, se_X3_running, h4])
    (repeat' (with_reducible first | apply And.intro | intro _)) <;> (try subst_vars) <;> first | exact Nat.zero_le _ | (simp_all [ST.seen]; done)
  have key : okFore m w = true → Gd E fpW 36 [some (.ref 0), some (.int m), some (.int w), some (.int (nI 0))] [] (S.sTrial S.now) := by
    intro hc
    have h5 := h54 hc
    obtain ⟨hm, hb⟩ := inR_n (m := m) (a := 1) (b := 1440) (by simp only [okFore, Bool.and_eq_true] at hc; exact hc.1) (by decide) (by decide)
    refine it_up (f := fun _ T => ST.minute T) (a := S.now) (n := m.toNatClampNeg) (fun _ T => T.okk) (fun i T => Gd E fpW 36 [some (.ref 0), some (.int m), some (.int w), some (.int (nI i))] [] (S.sTrial T)) h2 (fun i T hi hT => ST.minute_okk hT) (fun i T hi hT hn => ?_) ?_
    · have hx := lps hm hb hi
      clear hm hb hr h5 h54 h3 h4 hc
      have hk := hT.1
      (refine nx1_ok C cut_X6_foresee 1000 ?_; simp only [w_X6_foresee, ops_eq, xst_eq, call_eq, oK_eq, Option.toList_some, Option.toList_none, List.cons_append, List.nil_append, List.length_cons, List.length_nil, true_and, and_true, Nat.reduceAdd, fpW_F, fpW_A, fpW_S, fpW_P, FT_id, ST_id, FT_gs, ST_gs, PT_gs, ZT_gs, NT_gs, ET_gs, OT_gs, se_X6_within, se_X4_copyFrom, se_X4_runMinute, se_X3_running, hx, hk])
      ((repeat' (with_reducible first | apply And.intro | intro _)) <;> simp_all [FT_id, ST_id, FT_gs, ST_gs, PT_gs, ZT_gs, NT_gs, ET_gs, OT_gs])
    · have hx := lpe hm hb
      clear hm hb hr h54 h3 h4
      (refine nx1_ok C cut_X6_foresee 1000 ?_; simp only [w_X6_foresee, ops_eq, xst_eq, call_eq, oK_eq, Option.toList_some, Option.toList_none, List.cons_append, List.nil_append, List.length_cons, List.length_nil, true_and, and_true, Nat.reduceAdd, fpW_F, fpW_A, fpW_S, fpW_P, FT_id, ST_id, FT_gs, ST_gs, PT_gs, ZT_gs, NT_gs, ET_gs, OT_gs, se_X6_within, se_X4_copyFrom, se_X4_runMinute, se_X3_running, hx])
      ((repeat' (with_reducible first | apply And.intro | intro _)) <;> simp_all [ST.mins, FT_id, ST_id, FT_gs, ST_gs, PT_gs, ZT_gs, NT_gs, ET_gs, OT_gs])
  clear h54 h3 h4
  obtain ⟨hb1, hb2, hb3⟩ := h2.2
  unfold PT.bits at hb1
  unfold ZT.bits at hb2
  have e0 : (S.sTrial S.now).sNow S.now = S.sTrial S.now := rfl
  (refine nx_ok C (cuts := cut_X6_foresee) 1000 _ _ _ _ ?_; simp only [w_X6_foresee, ops_eq, xst_eq, call_eq, oK_eq, Option.toList_some, Option.toList_none, List.cons_append, List.nil_append, List.length_cons, List.length_nil, true_and, and_true, Nat.reduceAdd, fpW_F, fpW_A, fpW_S, fpW_P, FT_id, ST_id, FT_gs, ST_gs, PT_gs, ZT_gs, NT_gs, ET_gs, OT_gs, se_X6_within, se_X4_copyFrom, se_X4_runMinute, se_X3_running, bI_eq, O_callC_eq, hb1, hb2, hb3, e0])
  ((repeat' (with_reducible first | apply And.intro | intro _)) <;> simp_all [okFore, nI_0, FT_id, ST_id, FT_gs, ST_gs, PT_gs, ZT_gs, NT_gs, ET_gs, OT_gs])
def sp_X6_foresee : Sp FT := fun av S K => match av with
  | [.ref 0, .int m, .int w] => (S.good) ∧ K (some (.int (if okFore m w = false then -1000001 else (S.now.mins m.toNatClampNeg).seen w))) (if okFore m w = true then S.sTrial (S.now.mins m.toNatClampNeg) else S)
  | _ => False
theorem se_X6_foresee (m : Int32) (w : Int32) (S : FT) (K : Option Value → FT → Prop) : sp_X6_foresee [.ref 0, .int m, .int w] S K = ((S.good) ∧ K (some (.int (if okFore m w = false then -1000001 else (S.now.mins m.toNatClampNeg).seen w))) (if okFore m w = true then S.sTrial (S.now.mins m.toNatClampNeg) else S)) := rfl
theorem spok_X6_foresee : SpOk yX6_foresee cX6_foresee 4 (some .int) 5 fpW sp_X6_foresee := by
  intro av S K h
  unfold sp_X6_foresee at h
  split at h
  · rename_i m w; exact ⟨some (.int (if okFore m w = false then -1000001 else (S.now.mins m.toNatClampNeg).seen w)), if okFore m w = true then S.sTrial (S.now.mins m.toNatClampNeg) else S, trivial, con_X6_foresee S m w h.1, h.2⟩
  · exact h.elim
/-- the minute at which a kind of event is there, less one -/
def ST.when (S : ST) (k : Nat) : Option Nat := fstN (fun i => decide ((S.mins (i + 1)).E.latest k = (S.mins (i + 1)).time)) 1440
def whenI : Option Nat → Int32
  | some i => nI (i + 1)
  | none => -1000004
def whenN : Option Nat → Nat
  | some i => i + 1
  | none => 1440
theorem flX6_181 : fldOk RX6 181 0 3 = true := by decide +kernel
def cod_X6_foreseeEvent : List (Nat × Op FT) := [(0, O_iload 1 1), (1, O_int 0 1), (2, O_int 7 2), (4, O_callS 3 sp_X6_within), (7, O_if_ne 13), (10, O_int (-1000001) 2), (12, O_iret), (13, O_aload 0 1), (14, O_getf fpW 6 1), (17, O_aload 0 1), (18, O_getf fpW 6 0), (21, O_callC 25 1 24 (fun S : FT => (S.trial, S.now)) (fun S u => (S.sTrial u.1).sNow u.2) sp_X4_copyFrom), (24, O_int 1 1), (25, O_istore 2 1), (26, O_iload 2 1), (27, O_int 1440 3), (30, O_icmp_gt 70), (33, O_aload 0 1), (34, O_getf fpW 6 1), (37, O_callV 0 25 (fun S : FT => S.trial) (fun S u => S.sTrial u) sp_X4_runMinute), (40, O_aload 0 1), (41, O_getf fpW 6 1), (44, O_getf fpW 4 4), (47, O_getf fpW 0 3), (50, O_iload 1 1), (51, O_ald fpW 0), (52, O_aload 0 1), (53, O_getf fpW 6 1), (56, O_getf fpW 4 5), (59, O_icmp_ne 64), (62, O_iload 2 1), (63, O_iret), (64, O_iinc 2 1), (67, O_goto 26), (70, O_int (-1000004) 2), (72, O_iret)]
abbrev cut_X6_foreseeEvent : List Nat := [26]
set_option maxRecDepth 100000 in
theorem okc_X6_foreseeEvent {E : En} (F : Fx E RX6 cX6_foreseeEvent 3 5) (G : Fr E (some .int)) : CodOk E fpW cod_X6_foreseeEvent := by
  unfold CodOk cod_X6_foreseeEvent
  refine List.forall_mem_cons.mpr ⟨ok_iload_n F dX6_foreseeEvent_0 rfl (by decide), ?_⟩
  refine List.forall_mem_cons.mpr ⟨ok_iconst F dX6_foreseeEvent_1 (by decide) (by decide), ?_⟩
  refine List.forall_mem_cons.mpr ⟨ok_bipush F dX6_foreseeEvent_2 (by decide) (by decide), ?_⟩
  refine List.forall_mem_cons.mpr ⟨ok_callS F spok_X6_within (by decide +kernel) rfl (by decide) dX6_foreseeEvent_4 (by decide), ?_⟩
  refine List.forall_mem_cons.mpr ⟨ok_if_ne F dX6_foreseeEvent_7 (by decide) (by decide) (by decide), ?_⟩
  refine List.forall_mem_cons.mpr ⟨ok_ldc F (ix := 41) (wsHas_mem (l := [Jvm.Cond.constant RX6 41 (-1000001)]) (by decide +kernel) (by simp)) dX6_foreseeEvent_10 (by decide), ?_⟩
  refine List.forall_mem_cons.mpr ⟨ok_iret F G dX6_foreseeEvent_12 (by decide), ?_⟩
  refine List.forall_mem_cons.mpr ⟨ok_aload_n F dX6_foreseeEvent_13 rfl (by decide), ?_⟩
  refine List.forall_mem_cons.mpr ⟨ok_getf F flX6_16 dX6_foreseeEvent_14 (by decide), ?_⟩
  refine List.forall_mem_cons.mpr ⟨ok_aload_n F dX6_foreseeEvent_17 rfl (by decide), ?_⟩
  refine List.forall_mem_cons.mpr ⟨ok_getf F flX6_10 dX6_foreseeEvent_18 (by decide), ?_⟩
  refine List.forall_mem_cons.mpr ⟨ok_callC F (by decide) spok_X4_copyFrom ln2_fp_trial_now rcv_stW (by decide +kernel) (by decide) dX6_foreseeEvent_21 (by decide), ?_⟩
  refine List.forall_mem_cons.mpr ⟨ok_iconst F dX6_foreseeEvent_24 (by decide) (by decide), ?_⟩
  refine List.forall_mem_cons.mpr ⟨ok_istore_n F dX6_foreseeEvent_25 rfl (by decide) (by decide), ?_⟩
  refine List.forall_mem_cons.mpr ⟨ok_iload_n F dX6_foreseeEvent_26 rfl (by decide), ?_⟩
  refine List.forall_mem_cons.mpr ⟨ok_sipush F dX6_foreseeEvent_27 (by decide) (by decide), ?_⟩
  refine List.forall_mem_cons.mpr ⟨ok_icmp_gt F dX6_foreseeEvent_30 (by decide) (by decide) (by decide), ?_⟩
  refine List.forall_mem_cons.mpr ⟨ok_aload_n F dX6_foreseeEvent_33 rfl (by decide), ?_⟩
  refine List.forall_mem_cons.mpr ⟨ok_getf F flX6_16 dX6_foreseeEvent_34 (by decide), ?_⟩
  refine List.forall_mem_cons.mpr ⟨ok_callV F spok_X4_runMinute ln_fp_trial rcv_stW (by decide +kernel) (by decide) dX6_foreseeEvent_37 (by decide), ?_⟩
  refine List.forall_mem_cons.mpr ⟨ok_aload_n F dX6_foreseeEvent_40 rfl (by decide), ?_⟩
  refine List.forall_mem_cons.mpr ⟨ok_getf F flX6_16 dX6_foreseeEvent_41 (by decide), ?_⟩
  refine List.forall_mem_cons.mpr ⟨ok_getf F flX6_177 dX6_foreseeEvent_44 (by decide), ?_⟩
  refine List.forall_mem_cons.mpr ⟨ok_getf F flX6_181 dX6_foreseeEvent_47 (by decide), ?_⟩
  refine List.forall_mem_cons.mpr ⟨ok_iload_n F dX6_foreseeEvent_50 rfl (by decide), ?_⟩
  refine List.forall_mem_cons.mpr ⟨ok_iald F dX6_foreseeEvent_51 (by decide), ?_⟩
  refine List.forall_mem_cons.mpr ⟨ok_aload_n F dX6_foreseeEvent_52 rfl (by decide), ?_⟩
  refine List.forall_mem_cons.mpr ⟨ok_getf F flX6_16 dX6_foreseeEvent_53 (by decide), ?_⟩
  refine List.forall_mem_cons.mpr ⟨ok_getf F flX6_159 dX6_foreseeEvent_56 (by decide), ?_⟩
  refine List.forall_mem_cons.mpr ⟨ok_icmp_ne F dX6_foreseeEvent_59 (by decide) (by decide) (by decide), ?_⟩
  refine List.forall_mem_cons.mpr ⟨ok_iload_n F dX6_foreseeEvent_62 rfl (by decide), ?_⟩
  refine List.forall_mem_cons.mpr ⟨ok_iret F G dX6_foreseeEvent_63 (by decide), ?_⟩
  refine List.forall_mem_cons.mpr ⟨ok_iinc F dX6_foreseeEvent_64 (by decide) (by decide) (by decide), ?_⟩
  refine List.forall_mem_cons.mpr ⟨ok_goto F dX6_foreseeEvent_67 (by decide) (by decide) (by decide), ?_⟩
  refine List.forall_mem_cons.mpr ⟨ok_ldc F (ix := 110) (wsHas_mem (l := [Jvm.Cond.constant RX6 110 (-1000004)]) (by decide +kernel) (by simp)) dX6_foreseeEvent_70 (by decide), ?_⟩
  refine List.forall_mem_cons.mpr ⟨ok_iret F G dX6_foreseeEvent_72 (by decide), ?_⟩
  exact fun _ h => absurd h List.not_mem_nil
set_option maxRecDepth 100000 in
theorem w_X6_foreseeEvent : (∀ (K : Kt FT) (n : Nat) (L : xL) (st : List Value) (S : FT), nx cod_X6_foreseeEvent cut_X6_foreseeEvent K (n + 1) 0 L st S = (O_iload 1 1) (nx cod_X6_foreseeEvent cut_X6_foreseeEvent K n) 0 L st S) ∧
  (∀ (K : Kt FT) (n : Nat) (L : xL) (st : List Value) (S : FT), nx cod_X6_foreseeEvent cut_X6_foreseeEvent K (n + 1) 1 L st S = (O_int 0 1) (nx cod_X6_foreseeEvent cut_X6_foreseeEvent K n) 1 L st S) ∧
  (∀ (K : Kt FT) (n : Nat) (L : xL) (st : List Value) (S : FT), nx cod_X6_foreseeEvent cut_X6_foreseeEvent K (n + 1) 2 L st S = (O_int 7 2) (nx cod_X6_foreseeEvent cut_X6_foreseeEvent K n) 2 L st S) ∧
  (∀ (K : Kt FT) (n : Nat) (L : xL) (st : List Value) (S : FT), nx cod_X6_foreseeEvent cut_X6_foreseeEvent K (n + 1) 4 L st S = (O_callS 3 sp_X6_within) (nx cod_X6_foreseeEvent cut_X6_foreseeEvent K n) 4 L st S) ∧
  (∀ (K : Kt FT) (n : Nat) (L : xL) (st : List Value) (S : FT), nx cod_X6_foreseeEvent cut_X6_foreseeEvent K (n + 1) 7 L st S = (O_if_ne 13) (nx cod_X6_foreseeEvent cut_X6_foreseeEvent K n) 7 L st S) ∧
  (∀ (K : Kt FT) (n : Nat) (L : xL) (st : List Value) (S : FT), nx cod_X6_foreseeEvent cut_X6_foreseeEvent K (n + 1) 10 L st S = (O_int (-1000001) 2) (nx cod_X6_foreseeEvent cut_X6_foreseeEvent K n) 10 L st S) ∧
  (∀ (K : Kt FT) (n : Nat) (L : xL) (st : List Value) (S : FT), nx cod_X6_foreseeEvent cut_X6_foreseeEvent K (n + 1) 12 L st S = (O_iret) (nx cod_X6_foreseeEvent cut_X6_foreseeEvent K n) 12 L st S) ∧
  (∀ (K : Kt FT) (n : Nat) (L : xL) (st : List Value) (S : FT), nx cod_X6_foreseeEvent cut_X6_foreseeEvent K (n + 1) 13 L st S = (O_aload 0 1) (nx cod_X6_foreseeEvent cut_X6_foreseeEvent K n) 13 L st S) ∧
  (∀ (K : Kt FT) (n : Nat) (L : xL) (st : List Value) (S : FT), nx cod_X6_foreseeEvent cut_X6_foreseeEvent K (n + 1) 14 L st S = (O_getf fpW 6 1) (nx cod_X6_foreseeEvent cut_X6_foreseeEvent K n) 14 L st S) ∧
  (∀ (K : Kt FT) (n : Nat) (L : xL) (st : List Value) (S : FT), nx cod_X6_foreseeEvent cut_X6_foreseeEvent K (n + 1) 17 L st S = (O_aload 0 1) (nx cod_X6_foreseeEvent cut_X6_foreseeEvent K n) 17 L st S) ∧
  (∀ (K : Kt FT) (n : Nat) (L : xL) (st : List Value) (S : FT), nx cod_X6_foreseeEvent cut_X6_foreseeEvent K (n + 1) 18 L st S = (O_getf fpW 6 0) (nx cod_X6_foreseeEvent cut_X6_foreseeEvent K n) 18 L st S) ∧
  (∀ (K : Kt FT) (n : Nat) (L : xL) (st : List Value) (S : FT), nx cod_X6_foreseeEvent cut_X6_foreseeEvent K (n + 1) 21 L st S = (O_callC 25 1 24 (fun S : FT => (S.trial, S.now)) (fun S u => (S.sTrial u.1).sNow u.2) sp_X4_copyFrom) (nx cod_X6_foreseeEvent cut_X6_foreseeEvent K n) 21 L st S) ∧
  (∀ (K : Kt FT) (n : Nat) (L : xL) (st : List Value) (S : FT), nx cod_X6_foreseeEvent cut_X6_foreseeEvent K (n + 1) 24 L st S = (O_int 1 1) (nx cod_X6_foreseeEvent cut_X6_foreseeEvent K n) 24 L st S) ∧
  (∀ (K : Kt FT) (n : Nat) (L : xL) (st : List Value) (S : FT), nx cod_X6_foreseeEvent cut_X6_foreseeEvent K (n + 1) 25 L st S = (O_istore 2 1) (nx cod_X6_foreseeEvent cut_X6_foreseeEvent K n) 25 L st S) ∧
  (∀ (K : Kt FT) (n : Nat) (L : xL) (st : List Value) (S : FT), nx cod_X6_foreseeEvent cut_X6_foreseeEvent K (n + 1) 26 L st S = K 26 L st S) ∧
  (∀ (K : Kt FT) (n : Nat) (L : xL) (st : List Value) (S : FT), nx1 cod_X6_foreseeEvent cut_X6_foreseeEvent K n 26 L st S = (O_iload 2 1) (nx cod_X6_foreseeEvent cut_X6_foreseeEvent K n) 26 L st S) ∧
  (∀ (K : Kt FT) (n : Nat) (L : xL) (st : List Value) (S : FT), nx cod_X6_foreseeEvent cut_X6_foreseeEvent K (n + 1) 27 L st S = (O_int 1440 3) (nx cod_X6_foreseeEvent cut_X6_foreseeEvent K n) 27 L st S) ∧
  (∀ (K : Kt FT) (n : Nat) (L : xL) (st : List Value) (S : FT), nx cod_X6_foreseeEvent cut_X6_foreseeEvent K (n + 1) 30 L st S = (O_icmp_gt 70) (nx cod_X6_foreseeEvent cut_X6_foreseeEvent K n) 30 L st S) ∧
  (∀ (K : Kt FT) (n : Nat) (L : xL) (st : List Value) (S : FT), nx cod_X6_foreseeEvent cut_X6_foreseeEvent K (n + 1) 33 L st S = (O_aload 0 1) (nx cod_X6_foreseeEvent cut_X6_foreseeEvent K n) 33 L st S) ∧
  (∀ (K : Kt FT) (n : Nat) (L : xL) (st : List Value) (S : FT), nx cod_X6_foreseeEvent cut_X6_foreseeEvent K (n + 1) 34 L st S = (O_getf fpW 6 1) (nx cod_X6_foreseeEvent cut_X6_foreseeEvent K n) 34 L st S) ∧
  (∀ (K : Kt FT) (n : Nat) (L : xL) (st : List Value) (S : FT), nx cod_X6_foreseeEvent cut_X6_foreseeEvent K (n + 1) 37 L st S = (O_callV 0 25 (fun S : FT => S.trial) (fun S u => S.sTrial u) sp_X4_runMinute) (nx cod_X6_foreseeEvent cut_X6_foreseeEvent K n) 37 L st S) ∧
  (∀ (K : Kt FT) (n : Nat) (L : xL) (st : List Value) (S : FT), nx cod_X6_foreseeEvent cut_X6_foreseeEvent K (n + 1) 40 L st S = (O_aload 0 1) (nx cod_X6_foreseeEvent cut_X6_foreseeEvent K n) 40 L st S) ∧
  (∀ (K : Kt FT) (n : Nat) (L : xL) (st : List Value) (S : FT), nx cod_X6_foreseeEvent cut_X6_foreseeEvent K (n + 1) 41 L st S = (O_getf fpW 6 1) (nx cod_X6_foreseeEvent cut_X6_foreseeEvent K n) 41 L st S) ∧
  (∀ (K : Kt FT) (n : Nat) (L : xL) (st : List Value) (S : FT), nx cod_X6_foreseeEvent cut_X6_foreseeEvent K (n + 1) 44 L st S = (O_getf fpW 4 4) (nx cod_X6_foreseeEvent cut_X6_foreseeEvent K n) 44 L st S) ∧
  (∀ (K : Kt FT) (n : Nat) (L : xL) (st : List Value) (S : FT), nx cod_X6_foreseeEvent cut_X6_foreseeEvent K (n + 1) 47 L st S = (O_getf fpW 0 3) (nx cod_X6_foreseeEvent cut_X6_foreseeEvent K n) 47 L st S) ∧
  (∀ (K : Kt FT) (n : Nat) (L : xL) (st : List Value) (S : FT), nx cod_X6_foreseeEvent cut_X6_foreseeEvent K (n + 1) 50 L st S = (O_iload 1 1) (nx cod_X6_foreseeEvent cut_X6_foreseeEvent K n) 50 L st S) ∧
  (∀ (K : Kt FT) (n : Nat) (L : xL) (st : List Value) (S : FT), nx cod_X6_foreseeEvent cut_X6_foreseeEvent K (n + 1) 51 L st S = (O_ald fpW 0) (nx cod_X6_foreseeEvent cut_X6_foreseeEvent K n) 51 L st S) ∧
  (∀ (K : Kt FT) (n : Nat) (L : xL) (st : List Value) (S : FT), nx cod_X6_foreseeEvent cut_X6_foreseeEvent K (n + 1) 52 L st S = (O_aload 0 1) (nx cod_X6_foreseeEvent cut_X6_foreseeEvent K n) 52 L st S) ∧
  (∀ (K : Kt FT) (n : Nat) (L : xL) (st : List Value) (S : FT), nx cod_X6_foreseeEvent cut_X6_foreseeEvent K (n + 1) 53 L st S = (O_getf fpW 6 1) (nx cod_X6_foreseeEvent cut_X6_foreseeEvent K n) 53 L st S) ∧
  (∀ (K : Kt FT) (n : Nat) (L : xL) (st : List Value) (S : FT), nx cod_X6_foreseeEvent cut_X6_foreseeEvent K (n + 1) 56 L st S = (O_getf fpW 4 5) (nx cod_X6_foreseeEvent cut_X6_foreseeEvent K n) 56 L st S) ∧
  (∀ (K : Kt FT) (n : Nat) (L : xL) (st : List Value) (S : FT), nx cod_X6_foreseeEvent cut_X6_foreseeEvent K (n + 1) 59 L st S = (O_icmp_ne 64) (nx cod_X6_foreseeEvent cut_X6_foreseeEvent K n) 59 L st S) ∧
  (∀ (K : Kt FT) (n : Nat) (L : xL) (st : List Value) (S : FT), nx cod_X6_foreseeEvent cut_X6_foreseeEvent K (n + 1) 62 L st S = (O_iload 2 1) (nx cod_X6_foreseeEvent cut_X6_foreseeEvent K n) 62 L st S) ∧
  (∀ (K : Kt FT) (n : Nat) (L : xL) (st : List Value) (S : FT), nx cod_X6_foreseeEvent cut_X6_foreseeEvent K (n + 1) 63 L st S = (O_iret) (nx cod_X6_foreseeEvent cut_X6_foreseeEvent K n) 63 L st S) ∧
  (∀ (K : Kt FT) (n : Nat) (L : xL) (st : List Value) (S : FT), nx cod_X6_foreseeEvent cut_X6_foreseeEvent K (n + 1) 64 L st S = (O_iinc 2 1) (nx cod_X6_foreseeEvent cut_X6_foreseeEvent K n) 64 L st S) ∧
  (∀ (K : Kt FT) (n : Nat) (L : xL) (st : List Value) (S : FT), nx cod_X6_foreseeEvent cut_X6_foreseeEvent K (n + 1) 67 L st S = (O_goto 26) (nx cod_X6_foreseeEvent cut_X6_foreseeEvent K n) 67 L st S) ∧
  (∀ (K : Kt FT) (n : Nat) (L : xL) (st : List Value) (S : FT), nx cod_X6_foreseeEvent cut_X6_foreseeEvent K (n + 1) 70 L st S = (O_int (-1000004) 2) (nx cod_X6_foreseeEvent cut_X6_foreseeEvent K n) 70 L st S) ∧
  (∀ (K : Kt FT) (n : Nat) (L : xL) (st : List Value) (S : FT), nx cod_X6_foreseeEvent cut_X6_foreseeEvent K (n + 1) 72 L st S = (O_iret) (nx cod_X6_foreseeEvent cut_X6_foreseeEvent K n) 72 L st S) ∧
  (∀ (K : Kt FT) (n : Nat) (L : xL) (st : List Value) (S : FT), nx cod_X6_foreseeEvent cut_X6_foreseeEvent K (n + 1) 100000 L st S = K 100000 L st S) := by
  repeat' apply And.intro
  all_goals (intros; rfl)
set_option maxRecDepth 100000 in
theorem mk_X6_foreseeEvent {P P' : FT} {r : Option Value} {p0 : Int32} (body : ∀ E : En, CodOk E fpW cod_X6_foreseeEvent → Gd E fpW 100000 [] r.toList P' → Gd E fpW 0 [some (.ref 0), some (.int p0), none] [] P) : Con yX6_foreseeEvent cX6_foreseeEvent 3 (some .int) 5 fpW [.ref 0, .int p0] P r P' :=
  Con.of (by decide) rfl rfl (Nat.le_of_ble_eq_true rfl) (fun E F G hr => body E (okc_X6_foreseeEvent F G) hr)
set_option maxRecDepth 10000 in
theorem con_X6_foreseeEvent (S : FT) (k : Int32) (hp : S.good) : Con yX6_foreseeEvent cX6_foreseeEvent 3 (some .int) 5 fpW [.ref 0, .int k] S (some (.int (if inR k 0 7 = false then -1000001 else whenI (S.now.when k.toNatClampNeg)))) (if inR k 0 7 = true then S.sTrial (S.now.mins (whenN (S.now.when k.toNatClampNeg))) else S) := by
  refine mk_X6_foreseeEvent (fun E C hr => ?_)
  have h2 := hp.2.1
  clear hp
  have key : inR k 0 7 = true → Gd E fpW 26 [some (.ref 0), some (.int k), some (.int (nI (0 + 1)))] [] (S.sTrial (S.now.mins 0)) := by
    intro hc
    have hv : vp_in k 8 := by
      obtain ⟨hm, hb⟩ := inR_n hc (by decide) (by decide)
      simp only [inR, decide_eq_true_eq] at hc
      have h7 := hc.2
      rw [hm, show (7 : Int32) = nI 7 from rfl, nI_ltI (by omega) (by omega)] at h7
      rw [hm]
      exact vp_in_nI (by omega) (by omega)
    rw [if_pos hc, if_neg (by rw [hc]; decide)] at hr
    refine fstN_up (c := fun i => decide ((S.now.mins (i + 1)).E.latest k.toNatClampNeg = (S.now.mins (i + 1)).time)) (n := 1440) (fun i => Gd E fpW 26 [some (.ref 0), some (.int k), some (.int (nI (i + 1)))] [] (S.sTrial (S.now.mins i))) (fun i => Gd E fpW 100000 [] [.int (nI (i + 1))] (S.sTrial (S.now.mins (i + 1)))) (fun i hi h3 h4 => ?_) (fun p h => ?_) (fun h => ?_)
    · have hm : (S.now.mins i).minute = S.now.mins (i + 1) := (ST.mins_succ _ _).symm
      have hk := (ST.mins_okk h2 i).1
      have hx : ¬ 1440 < nI (i + 1) ∧ nI (i + 1) + 1 = nI (i + 1 + 1) := ⟨by rw [show (1440 : Int32) = nI 1440 from rfl, nI_ltI (by omega) (by omega)]; omega, nI_1 _⟩
      clear hr
      (refine nx1_ok C cut_X6_foreseeEvent 1000 ?_; simp only [w_X6_foreseeEvent, ops_eq, xst_eq, call_eq, oK_eq, Option.toList_some, Option.toList_none, List.cons_append, List.nil_append, List.length_cons, List.length_nil, true_and, and_true, Nat.reduceAdd, fpW_F, fpW_A, fpW_S, fpW_P, FT_id, ST_id, FT_gs, ST_gs, PT_gs, ZT_gs, NT_gs, ET_gs, OT_gs, se_X6_within, se_X4_copyFrom, se_X4_runMinute, hx, hk, hm, hv])
      ((repeat' (with_reducible first | apply And.intro | intro _)) <;> simp_all [FT_id, ST_id, FT_gs, ST_gs, PT_gs, ZT_gs, NT_gs, ET_gs, OT_gs])
    · have : S.now.when k.toNatClampNeg = some p := h
      simpa [this, whenI, whenN] using hr
    · have : S.now.when k.toNatClampNeg = none := h
      simp only [this, whenI, whenN] at hr
      (refine nx1_ok C cut_X6_foreseeEvent 1000 ?_; simp only [w_X6_foreseeEvent, ops_eq, xst_eq, call_eq, oK_eq, Option.toList_some, Option.toList_none, List.cons_append, List.nil_append, List.length_cons, List.length_nil, true_and, and_true, Nat.reduceAdd, fpW_F, fpW_A, fpW_S, fpW_P, FT_id, ST_id, FT_gs, ST_gs, PT_gs, ZT_gs, NT_gs, ET_gs, OT_gs, se_X6_within, se_X4_copyFrom, se_X4_runMinute, show 1440 < nI (1440 + 1) from by decide])
      ((repeat' (with_reducible first | apply And.intro | intro _)) <;> simp_all [FT_id, ST_id, FT_gs, ST_gs, PT_gs, ZT_gs, NT_gs, ET_gs, OT_gs])
  obtain ⟨hb1, hb2, hb3⟩ := h2.2
  unfold PT.bits at hb1
  unfold ZT.bits at hb2
  have e0 : (S.sTrial S.now).sNow S.now = S.sTrial S.now := rfl
  have e1 : S.now.mins 0 = S.now := rfl
  rw [e1] at key
  (refine nx_ok C (cuts := cut_X6_foreseeEvent) 1000 _ _ _ _ ?_; simp only [w_X6_foreseeEvent, ops_eq, xst_eq, call_eq, oK_eq, Option.toList_some, Option.toList_none, List.cons_append, List.nil_append, List.length_cons, List.length_nil, true_and, and_true, Nat.reduceAdd, fpW_F, fpW_A, fpW_S, fpW_P, FT_id, ST_id, FT_gs, ST_gs, PT_gs, ZT_gs, NT_gs, ET_gs, OT_gs, se_X6_within, se_X4_copyFrom, se_X4_runMinute, bI_eq, O_callC_eq, hb1, hb2, hb3, e0, show (1 : Int32) = nI (0 + 1) from rfl])
  by_cases hc : inR k 0 7 = true
  · have key := key hc
    clear hr
    ((repeat' (with_reducible first | apply And.intro | intro _)) <;> simp_all [FT_id, ST_id, FT_gs, ST_gs, PT_gs, ZT_gs, NT_gs, ET_gs, OT_gs])
  · ((repeat' (with_reducible first | apply And.intro | intro _)) <;> simp_all [FT_id, ST_id, FT_gs, ST_gs, PT_gs, ZT_gs, NT_gs, ET_gs, OT_gs])
def sp_X6_foreseeEvent : Sp FT := fun av S K => match av with
  | [.ref 0, .int k] => (S.good) ∧ K (some (.int (if inR k 0 7 = false then -1000001 else whenI (S.now.when k.toNatClampNeg)))) (if inR k 0 7 = true then S.sTrial (S.now.mins (whenN (S.now.when k.toNatClampNeg))) else S)
  | _ => False
theorem se_X6_foreseeEvent (k : Int32) (S : FT) (K : Option Value → FT → Prop) : sp_X6_foreseeEvent [.ref 0, .int k] S K = ((S.good) ∧ K (some (.int (if inR k 0 7 = false then -1000001 else whenI (S.now.when k.toNatClampNeg)))) (if inR k 0 7 = true then S.sTrial (S.now.mins (whenN (S.now.when k.toNatClampNeg))) else S)) := rfl
theorem spok_X6_foreseeEvent : SpOk yX6_foreseeEvent cX6_foreseeEvent 3 (some .int) 5 fpW sp_X6_foreseeEvent := by
  intro av S K h
  unfold sp_X6_foreseeEvent at h
  split at h
  · rename_i k; exact ⟨some (.int (if inR k 0 7 = false then -1000001 else whenI (S.now.when k.toNatClampNeg))), if inR k 0 7 = true then S.sTrial (S.now.mins (whenN (S.now.when k.toNatClampNeg))) else S, trivial, con_X6_foreseeEvent S k h.1, h.2⟩
  · exact h.elim
def ST.tStop (T : ST) (p : Int32) : Int32 × ST := if T.P.has p = false then (2, T) else if T.P.inService p.toNatClampNeg = 0 then (3, T) else (0, T.change p 0)
def cod_X6_tryStoppingService : List (Nat × Op FT) := [(0, O_aload 0 1), (1, O_getf fpW 6 1), (4, O_getf fpW 4 1), (7, O_iload 1 1), (8, O_callV 1 27 (fun S : FT => S.trial.P) (fun S u => S.sTrial (S.trial.sP u)) sp_X3_has), (11, O_if_ne 16), (14, O_int 2 1), (15, O_iret), (16, O_aload 0 1), (17, O_getf fpW 6 1), (20, O_getf fpW 4 1), (23, O_getf fpW 3 3), (26, O_iload 1 1), (27, O_ald fpW 1), (28, O_if_ne 33), (31, O_int 3 1), (32, O_iret), (33, O_aload 0 1), (34, O_getf fpW 6 1), (37, O_iload 1 1), (38, O_int 0 1), (39, O_callV 2 25 (fun S : FT => S.trial) (fun S u => S.sTrial u) sp_X4_changeService), (42, O_pop), (43, O_int 0 1), (44, O_iret)]
abbrev cut_X6_tryStoppingService : List Nat := []
set_option maxRecDepth 100000 in
theorem okc_X6_tryStoppingService {E : En} (F : Fx E RX6 cX6_tryStoppingService 2 4) (G : Fr E (some .int)) : CodOk E fpW cod_X6_tryStoppingService := by
  unfold CodOk cod_X6_tryStoppingService
  refine List.forall_mem_cons.mpr ⟨ok_aload_n F dX6_tryStoppingService_0 rfl (by decide), ?_⟩
  refine List.forall_mem_cons.mpr ⟨ok_getf F flX6_16 dX6_tryStoppingService_1 (by decide), ?_⟩
  refine List.forall_mem_cons.mpr ⟨ok_getf F flX6_50 dX6_tryStoppingService_4 (by decide), ?_⟩
  refine List.forall_mem_cons.mpr ⟨ok_iload_n F dX6_tryStoppingService_7 rfl (by decide), ?_⟩
  refine List.forall_mem_cons.mpr ⟨ok_callV F spok_X3_has ln_fp_trial_P rcv_pW (by decide +kernel) (by decide) dX6_tryStoppingService_8 (by decide), ?_⟩
  refine List.forall_mem_cons.mpr ⟨ok_if_ne F dX6_tryStoppingService_11 (by decide) (by decide) (by decide), ?_⟩
  refine List.forall_mem_cons.mpr ⟨ok_iconst F dX6_tryStoppingService_14 (by decide) (by decide), ?_⟩
  refine List.forall_mem_cons.mpr ⟨ok_iret F G dX6_tryStoppingService_15 (by decide), ?_⟩
  refine List.forall_mem_cons.mpr ⟨ok_aload_n F dX6_tryStoppingService_16 rfl (by decide), ?_⟩
  refine List.forall_mem_cons.mpr ⟨ok_getf F flX6_16 dX6_tryStoppingService_17 (by decide), ?_⟩
  refine List.forall_mem_cons.mpr ⟨ok_getf F flX6_50 dX6_tryStoppingService_20 (by decide), ?_⟩
  refine List.forall_mem_cons.mpr ⟨ok_getf F flX6_67 dX6_tryStoppingService_23 (by decide), ?_⟩
  refine List.forall_mem_cons.mpr ⟨ok_iload_n F dX6_tryStoppingService_26 rfl (by decide), ?_⟩
  refine List.forall_mem_cons.mpr ⟨ok_zald F dX6_tryStoppingService_27 (by decide), ?_⟩
  refine List.forall_mem_cons.mpr ⟨ok_if_ne F dX6_tryStoppingService_28 (by decide) (by decide) (by decide), ?_⟩
  refine List.forall_mem_cons.mpr ⟨ok_iconst F dX6_tryStoppingService_31 (by decide) (by decide), ?_⟩
  refine List.forall_mem_cons.mpr ⟨ok_iret F G dX6_tryStoppingService_32 (by decide), ?_⟩
  refine List.forall_mem_cons.mpr ⟨ok_aload_n F dX6_tryStoppingService_33 rfl (by decide), ?_⟩
  refine List.forall_mem_cons.mpr ⟨ok_getf F flX6_16 dX6_tryStoppingService_34 (by decide), ?_⟩
  refine List.forall_mem_cons.mpr ⟨ok_iload_n F dX6_tryStoppingService_37 rfl (by decide), ?_⟩
  refine List.forall_mem_cons.mpr ⟨ok_iconst F dX6_tryStoppingService_38 (by decide) (by decide), ?_⟩
  refine List.forall_mem_cons.mpr ⟨ok_callV F spok_X4_changeService ln_fp_trial rcv_stW (by decide +kernel) (by decide) dX6_tryStoppingService_39 (by decide), ?_⟩
  refine List.forall_mem_cons.mpr ⟨ok_pop F dX6_tryStoppingService_42 (by decide), ?_⟩
  refine List.forall_mem_cons.mpr ⟨ok_iconst F dX6_tryStoppingService_43 (by decide) (by decide), ?_⟩
  refine List.forall_mem_cons.mpr ⟨ok_iret F G dX6_tryStoppingService_44 (by decide), ?_⟩
  exact fun _ h => absurd h List.not_mem_nil
set_option maxRecDepth 100000 in
theorem w_X6_tryStoppingService : (∀ (K : Kt FT) (n : Nat) (L : xL) (st : List Value) (S : FT), nx cod_X6_tryStoppingService cut_X6_tryStoppingService K (n + 1) 0 L st S = (O_aload 0 1) (nx cod_X6_tryStoppingService cut_X6_tryStoppingService K n) 0 L st S) ∧
  (∀ (K : Kt FT) (n : Nat) (L : xL) (st : List Value) (S : FT), nx cod_X6_tryStoppingService cut_X6_tryStoppingService K (n + 1) 1 L st S = (O_getf fpW 6 1) (nx cod_X6_tryStoppingService cut_X6_tryStoppingService K n) 1 L st S) ∧
  (∀ (K : Kt FT) (n : Nat) (L : xL) (st : List Value) (S : FT), nx cod_X6_tryStoppingService cut_X6_tryStoppingService K (n + 1) 4 L st S = (O_getf fpW 4 1) (nx cod_X6_tryStoppingService cut_X6_tryStoppingService K n) 4 L st S) ∧
  (∀ (K : Kt FT) (n : Nat) (L : xL) (st : List Value) (S : FT), nx cod_X6_tryStoppingService cut_X6_tryStoppingService K (n + 1) 7 L st S = (O_iload 1 1) (nx cod_X6_tryStoppingService cut_X6_tryStoppingService K n) 7 L st S) ∧
  (∀ (K : Kt FT) (n : Nat) (L : xL) (st : List Value) (S : FT), nx cod_X6_tryStoppingService cut_X6_tryStoppingService K (n + 1) 8 L st S = (O_callV 1 27 (fun S : FT => S.trial.P) (fun S u => S.sTrial (S.trial.sP u)) sp_X3_has) (nx cod_X6_tryStoppingService cut_X6_tryStoppingService K n) 8 L st S) ∧
  (∀ (K : Kt FT) (n : Nat) (L : xL) (st : List Value) (S : FT), nx cod_X6_tryStoppingService cut_X6_tryStoppingService K (n + 1) 11 L st S = (O_if_ne 16) (nx cod_X6_tryStoppingService cut_X6_tryStoppingService K n) 11 L st S) ∧
  (∀ (K : Kt FT) (n : Nat) (L : xL) (st : List Value) (S : FT), nx cod_X6_tryStoppingService cut_X6_tryStoppingService K (n + 1) 14 L st S = (O_int 2 1) (nx cod_X6_tryStoppingService cut_X6_tryStoppingService K n) 14 L st S) ∧
  (∀ (K : Kt FT) (n : Nat) (L : xL) (st : List Value) (S : FT), nx cod_X6_tryStoppingService cut_X6_tryStoppingService K (n + 1) 15 L st S = (O_iret) (nx cod_X6_tryStoppingService cut_X6_tryStoppingService K n) 15 L st S) ∧
  (∀ (K : Kt FT) (n : Nat) (L : xL) (st : List Value) (S : FT), nx cod_X6_tryStoppingService cut_X6_tryStoppingService K (n + 1) 16 L st S = (O_aload 0 1) (nx cod_X6_tryStoppingService cut_X6_tryStoppingService K n) 16 L st S) ∧
  (∀ (K : Kt FT) (n : Nat) (L : xL) (st : List Value) (S : FT), nx cod_X6_tryStoppingService cut_X6_tryStoppingService K (n + 1) 17 L st S = (O_getf fpW 6 1) (nx cod_X6_tryStoppingService cut_X6_tryStoppingService K n) 17 L st S) ∧
  (∀ (K : Kt FT) (n : Nat) (L : xL) (st : List Value) (S : FT), nx cod_X6_tryStoppingService cut_X6_tryStoppingService K (n + 1) 20 L st S = (O_getf fpW 4 1) (nx cod_X6_tryStoppingService cut_X6_tryStoppingService K n) 20 L st S) ∧
  (∀ (K : Kt FT) (n : Nat) (L : xL) (st : List Value) (S : FT), nx cod_X6_tryStoppingService cut_X6_tryStoppingService K (n + 1) 23 L st S = (O_getf fpW 3 3) (nx cod_X6_tryStoppingService cut_X6_tryStoppingService K n) 23 L st S) ∧
  (∀ (K : Kt FT) (n : Nat) (L : xL) (st : List Value) (S : FT), nx cod_X6_tryStoppingService cut_X6_tryStoppingService K (n + 1) 26 L st S = (O_iload 1 1) (nx cod_X6_tryStoppingService cut_X6_tryStoppingService K n) 26 L st S) ∧
  (∀ (K : Kt FT) (n : Nat) (L : xL) (st : List Value) (S : FT), nx cod_X6_tryStoppingService cut_X6_tryStoppingService K (n + 1) 27 L st S = (O_ald fpW 1) (nx cod_X6_tryStoppingService cut_X6_tryStoppingService K n) 27 L st S) ∧
  (∀ (K : Kt FT) (n : Nat) (L : xL) (st : List Value) (S : FT), nx cod_X6_tryStoppingService cut_X6_tryStoppingService K (n + 1) 28 L st S = (O_if_ne 33) (nx cod_X6_tryStoppingService cut_X6_tryStoppingService K n) 28 L st S) ∧
  (∀ (K : Kt FT) (n : Nat) (L : xL) (st : List Value) (S : FT), nx cod_X6_tryStoppingService cut_X6_tryStoppingService K (n + 1) 31 L st S = (O_int 3 1) (nx cod_X6_tryStoppingService cut_X6_tryStoppingService K n) 31 L st S) ∧
  (∀ (K : Kt FT) (n : Nat) (L : xL) (st : List Value) (S : FT), nx cod_X6_tryStoppingService cut_X6_tryStoppingService K (n + 1) 32 L st S = (O_iret) (nx cod_X6_tryStoppingService cut_X6_tryStoppingService K n) 32 L st S) ∧
  (∀ (K : Kt FT) (n : Nat) (L : xL) (st : List Value) (S : FT), nx cod_X6_tryStoppingService cut_X6_tryStoppingService K (n + 1) 33 L st S = (O_aload 0 1) (nx cod_X6_tryStoppingService cut_X6_tryStoppingService K n) 33 L st S) ∧
  (∀ (K : Kt FT) (n : Nat) (L : xL) (st : List Value) (S : FT), nx cod_X6_tryStoppingService cut_X6_tryStoppingService K (n + 1) 34 L st S = (O_getf fpW 6 1) (nx cod_X6_tryStoppingService cut_X6_tryStoppingService K n) 34 L st S) ∧
  (∀ (K : Kt FT) (n : Nat) (L : xL) (st : List Value) (S : FT), nx cod_X6_tryStoppingService cut_X6_tryStoppingService K (n + 1) 37 L st S = (O_iload 1 1) (nx cod_X6_tryStoppingService cut_X6_tryStoppingService K n) 37 L st S) ∧
  (∀ (K : Kt FT) (n : Nat) (L : xL) (st : List Value) (S : FT), nx cod_X6_tryStoppingService cut_X6_tryStoppingService K (n + 1) 38 L st S = (O_int 0 1) (nx cod_X6_tryStoppingService cut_X6_tryStoppingService K n) 38 L st S) ∧
  (∀ (K : Kt FT) (n : Nat) (L : xL) (st : List Value) (S : FT), nx cod_X6_tryStoppingService cut_X6_tryStoppingService K (n + 1) 39 L st S = (O_callV 2 25 (fun S : FT => S.trial) (fun S u => S.sTrial u) sp_X4_changeService) (nx cod_X6_tryStoppingService cut_X6_tryStoppingService K n) 39 L st S) ∧
  (∀ (K : Kt FT) (n : Nat) (L : xL) (st : List Value) (S : FT), nx cod_X6_tryStoppingService cut_X6_tryStoppingService K (n + 1) 42 L st S = (O_pop) (nx cod_X6_tryStoppingService cut_X6_tryStoppingService K n) 42 L st S) ∧
  (∀ (K : Kt FT) (n : Nat) (L : xL) (st : List Value) (S : FT), nx cod_X6_tryStoppingService cut_X6_tryStoppingService K (n + 1) 43 L st S = (O_int 0 1) (nx cod_X6_tryStoppingService cut_X6_tryStoppingService K n) 43 L st S) ∧
  (∀ (K : Kt FT) (n : Nat) (L : xL) (st : List Value) (S : FT), nx cod_X6_tryStoppingService cut_X6_tryStoppingService K (n + 1) 44 L st S = (O_iret) (nx cod_X6_tryStoppingService cut_X6_tryStoppingService K n) 44 L st S) ∧
  (∀ (K : Kt FT) (n : Nat) (L : xL) (st : List Value) (S : FT), nx cod_X6_tryStoppingService cut_X6_tryStoppingService K (n + 1) 100000 L st S = K 100000 L st S) := by
  repeat' apply And.intro
  all_goals (intros; rfl)
set_option maxRecDepth 100000 in
theorem mk_X6_tryStoppingService {P P' : FT} {r : Option Value} {p0 : Int32} (body : ∀ E : En, CodOk E fpW cod_X6_tryStoppingService → Gd E fpW 100000 [] r.toList P' → Gd E fpW 0 [some (.ref 0), some (.int p0)] [] P) : Con yX6_tryStoppingService cX6_tryStoppingService 2 (some .int) 4 fpW [.ref 0, .int p0] P r P' :=
  Con.of (by decide) rfl rfl (Nat.le_of_ble_eq_true rfl) (fun E F G hr => body E (okc_X6_tryStoppingService F G) hr)
set_option maxRecDepth 10000 in
theorem con_X6_tryStoppingService (S : FT) (p : Int32) (hp : S.trial.ok) : Con yX6_tryStoppingService cX6_tryStoppingService 2 (some .int) 4 fpW [.ref 0, .int p] S (some (.int ((S.trial.tStop p).1))) (S.sTrial (S.trial.tStop p).2) := by
  refine mk_X6_tryStoppingService (fun E C hr => ?_)
  have h3 := hp.1
  have hv := PT.has_in (p := p) h3
  have hb0 : b01 0 := Or.inl rfl
  clear hp
  (refine nx_ok C (cuts := cut_X6_tryStoppingService) 1000 _ _ _ _ ?_; simp only [w_X6_tryStoppingService, ops_eq, xst_eq, call_eq, oK_eq, Option.toList_some, Option.toList_none, List.cons_append, List.nil_append, List.length_cons, List.length_nil, true_and, and_true, Nat.reduceAdd, fpW_F, fpW_A, fpW_S, fpW_P, FT_id, ST_id, FT_gs, ST_gs, PT_gs, ZT_gs, NT_gs, ET_gs, OT_gs, se_X3_has, se_X4_changeService, bI_eq, h3, hb0])
  ((repeat' (with_reducible first | apply And.intro | intro _)) <;> simp_all [ST.tStop, FT_id, ST_id, FT_gs, ST_gs, PT_gs, ZT_gs, NT_gs, ET_gs, OT_gs])
def sp_X6_tryStoppingService : Sp FT := fun av S K => match av with
  | [.ref 0, .int p] => (S.trial.ok) ∧ K (some (.int ((S.trial.tStop p).1))) (S.sTrial (S.trial.tStop p).2)
  | _ => False
theorem se_X6_tryStoppingService (p : Int32) (S : FT) (K : Option Value → FT → Prop) : sp_X6_tryStoppingService [.ref 0, .int p] S K = ((S.trial.ok) ∧ K (some (.int ((S.trial.tStop p).1))) (S.sTrial (S.trial.tStop p).2)) := rfl
theorem spok_X6_tryStoppingService : SpOk yX6_tryStoppingService cX6_tryStoppingService 2 (some .int) 4 fpW sp_X6_tryStoppingService := by
  intro av S K h
  unfold sp_X6_tryStoppingService at h
  split at h
  · rename_i p; exact ⟨some (.int ((S.trial.tStop p).1)), S.sTrial (S.trial.tStop p).2, trivial, con_X6_tryStoppingService S p h.1, h.2⟩
  · exact h.elim
def ST.tReset (T : ST) : Int32 × ST := if T.trips = 0 then (3, T) else (0, (T.sTrips 0).goOn)
def cod_X6_tryReset : List (Nat × Op FT) := [(0, O_aload 0 1), (1, O_getf fpW 6 1), (4, O_getf fpW 4 13), (7, O_if_ne 12), (10, O_int 3 1), (11, O_iret), (12, O_aload 0 1), (13, O_getf fpW 6 1), (16, O_callV 0 25 (fun S : FT => S.trial) (fun S u => S.sTrial u) sp_X4_forgetTrips), (19, O_int 0 1), (20, O_iret)]
abbrev cut_X6_tryReset : List Nat := []
set_option maxRecDepth 100000 in
theorem okc_X6_tryReset {E : En} (F : Fx E RX6 cX6_tryReset 1 3) (G : Fr E (some .int)) : CodOk E fpW cod_X6_tryReset := by
  unfold CodOk cod_X6_tryReset
  refine List.forall_mem_cons.mpr ⟨ok_aload_n F dX6_tryReset_0 rfl (by decide), ?_⟩
  refine List.forall_mem_cons.mpr ⟨ok_getf F flX6_16 dX6_tryReset_1 (by decide), ?_⟩
  refine List.forall_mem_cons.mpr ⟨ok_getf F flX6_153 dX6_tryReset_4 (by decide), ?_⟩
  refine List.forall_mem_cons.mpr ⟨ok_if_ne F dX6_tryReset_7 (by decide) (by decide) (by decide), ?_⟩
  refine List.forall_mem_cons.mpr ⟨ok_iconst F dX6_tryReset_10 (by decide) (by decide), ?_⟩
  refine List.forall_mem_cons.mpr ⟨ok_iret F G dX6_tryReset_11 (by decide), ?_⟩
  refine List.forall_mem_cons.mpr ⟨ok_aload_n F dX6_tryReset_12 rfl (by decide), ?_⟩
  refine List.forall_mem_cons.mpr ⟨ok_getf F flX6_16 dX6_tryReset_13 (by decide), ?_⟩
  refine List.forall_mem_cons.mpr ⟨ok_callV F spok_X4_forgetTrips ln_fp_trial rcv_stW (by decide +kernel) (by decide) dX6_tryReset_16 (by decide), ?_⟩
  refine List.forall_mem_cons.mpr ⟨ok_iconst F dX6_tryReset_19 (by decide) (by decide), ?_⟩
  refine List.forall_mem_cons.mpr ⟨ok_iret F G dX6_tryReset_20 (by decide), ?_⟩
  exact fun _ h => absurd h List.not_mem_nil
set_option maxRecDepth 100000 in
theorem w_X6_tryReset : (∀ (K : Kt FT) (n : Nat) (L : xL) (st : List Value) (S : FT), nx cod_X6_tryReset cut_X6_tryReset K (n + 1) 0 L st S = (O_aload 0 1) (nx cod_X6_tryReset cut_X6_tryReset K n) 0 L st S) ∧
  (∀ (K : Kt FT) (n : Nat) (L : xL) (st : List Value) (S : FT), nx cod_X6_tryReset cut_X6_tryReset K (n + 1) 1 L st S = (O_getf fpW 6 1) (nx cod_X6_tryReset cut_X6_tryReset K n) 1 L st S) ∧
  (∀ (K : Kt FT) (n : Nat) (L : xL) (st : List Value) (S : FT), nx cod_X6_tryReset cut_X6_tryReset K (n + 1) 4 L st S = (O_getf fpW 4 13) (nx cod_X6_tryReset cut_X6_tryReset K n) 4 L st S) ∧
  (∀ (K : Kt FT) (n : Nat) (L : xL) (st : List Value) (S : FT), nx cod_X6_tryReset cut_X6_tryReset K (n + 1) 7 L st S = (O_if_ne 12) (nx cod_X6_tryReset cut_X6_tryReset K n) 7 L st S) ∧
  (∀ (K : Kt FT) (n : Nat) (L : xL) (st : List Value) (S : FT), nx cod_X6_tryReset cut_X6_tryReset K (n + 1) 10 L st S = (O_int 3 1) (nx cod_X6_tryReset cut_X6_tryReset K n) 10 L st S) ∧
  (∀ (K : Kt FT) (n : Nat) (L : xL) (st : List Value) (S : FT), nx cod_X6_tryReset cut_X6_tryReset K (n + 1) 11 L st S = (O_iret) (nx cod_X6_tryReset cut_X6_tryReset K n) 11 L st S) ∧
  (∀ (K : Kt FT) (n : Nat) (L : xL) (st : List Value) (S : FT), nx cod_X6_tryReset cut_X6_tryReset K (n + 1) 12 L st S = (O_aload 0 1) (nx cod_X6_tryReset cut_X6_tryReset K n) 12 L st S) ∧
  (∀ (K : Kt FT) (n : Nat) (L : xL) (st : List Value) (S : FT), nx cod_X6_tryReset cut_X6_tryReset K (n + 1) 13 L st S = (O_getf fpW 6 1) (nx cod_X6_tryReset cut_X6_tryReset K n) 13 L st S) ∧
  (∀ (K : Kt FT) (n : Nat) (L : xL) (st : List Value) (S : FT), nx cod_X6_tryReset cut_X6_tryReset K (n + 1) 16 L st S = (O_callV 0 25 (fun S : FT => S.trial) (fun S u => S.sTrial u) sp_X4_forgetTrips) (nx cod_X6_tryReset cut_X6_tryReset K n) 16 L st S) ∧
  (∀ (K : Kt FT) (n : Nat) (L : xL) (st : List Value) (S : FT), nx cod_X6_tryReset cut_X6_tryReset K (n + 1) 19 L st S = (O_int 0 1) (nx cod_X6_tryReset cut_X6_tryReset K n) 19 L st S) ∧
  (∀ (K : Kt FT) (n : Nat) (L : xL) (st : List Value) (S : FT), nx cod_X6_tryReset cut_X6_tryReset K (n + 1) 20 L st S = (O_iret) (nx cod_X6_tryReset cut_X6_tryReset K n) 20 L st S) ∧
  (∀ (K : Kt FT) (n : Nat) (L : xL) (st : List Value) (S : FT), nx cod_X6_tryReset cut_X6_tryReset K (n + 1) 100000 L st S = K 100000 L st S) := by
  repeat' apply And.intro
  all_goals (intros; rfl)
set_option maxRecDepth 100000 in
theorem mk_X6_tryReset {P P' : FT} {r : Option Value}  (body : ∀ E : En, CodOk E fpW cod_X6_tryReset → Gd E fpW 100000 [] r.toList P' → Gd E fpW 0 [some (.ref 0)] [] P) : Con yX6_tryReset cX6_tryReset 1 (some .int) 3 fpW [.ref 0] P r P' :=
  Con.of (by decide) rfl rfl (Nat.le_of_ble_eq_true rfl) (fun E F G hr => body E (okc_X6_tryReset F G) hr)
set_option maxRecDepth 10000 in
theorem con_X6_tryReset (S : FT)  : Con yX6_tryReset cX6_tryReset 1 (some .int) 3 fpW [.ref 0] S (some (.int (S.trial.tReset.1))) (S.sTrial S.trial.tReset.2) := by
  refine mk_X6_tryReset (fun E C hr => ?_)
  (refine nx_ok C (cuts := cut_X6_tryReset) 1000 _ _ _ _ ?_; simp only [w_X6_tryReset, ops_eq, xst_eq, call_eq, oK_eq, Option.toList_some, Option.toList_none, List.cons_append, List.nil_append, List.length_cons, List.length_nil, true_and, and_true, Nat.reduceAdd, fpW_F, fpW_A, fpW_S, fpW_P, FT_id, ST_id, FT_gs, ST_gs, PT_gs, ZT_gs, NT_gs, ET_gs, OT_gs, se_X4_forgetTrips])
  ((repeat' (with_reducible first | apply And.intro | intro _)) <;> simp_all [ST.tReset, FT_id, ST_id, FT_gs, ST_gs, PT_gs, ZT_gs, NT_gs, ET_gs, OT_gs])
def sp_X6_tryReset : Sp FT := fun av S K => match av with
  | [.ref 0] => K (some (.int (S.trial.tReset.1))) (S.sTrial S.trial.tReset.2)
  | _ => False
theorem se_X6_tryReset  (S : FT) (K : Option Value → FT → Prop) : sp_X6_tryReset [.ref 0] S K = (K (some (.int (S.trial.tReset.1))) (S.sTrial S.trial.tReset.2)) := rfl
theorem spok_X6_tryReset : SpOk yX6_tryReset cX6_tryReset 1 (some .int) 3 fpW sp_X6_tryReset := by
  intro av S K h
  unfold sp_X6_tryReset at h
  split at h
  · exact ⟨some (.int (S.trial.tReset.1)), S.sTrial S.trial.tReset.2, trivial, con_X6_tryReset S , h⟩
  · exact h.elim
def ST.tZone (T : ST) (z is : Int32) : Int32 × ST := if T.Z.has z = false then (2, T) else if T.Z.isOpen z.toNatClampNeg = is then (3, T) else (0, T.sZ (T.Z.sIsOpen (upd T.Z.isOpen z.toNatClampNeg is)))
def cod_X6_tryZone : List (Nat × Op FT) := [(0, O_aload 0 1), (1, O_getf fpW 6 1), (4, O_getf fpW 4 2), (7, O_iload 1 1), (8, O_callV 1 36 (fun S : FT => S.trial.Z) (fun S u => S.sTrial (S.trial.sZ u)) sp_X5_has), (11, O_if_ne 16), (14, O_int 2 1), (15, O_iret), (16, O_aload 0 1), (17, O_getf fpW 6 1), (20, O_getf fpW 4 2), (23, O_getf fpW 5 1), (26, O_iload 1 1), (27, O_ald fpW 1), (28, O_iload 2 1), (29, O_icmp_ne 34), (32, O_int 3 1), (33, O_iret), (34, O_aload 0 1), (35, O_getf fpW 6 1), (38, O_getf fpW 4 2), (41, O_getf fpW 5 1), (44, O_iload 1 1), (45, O_iload 2 1), (46, O_ast fpW 1 fpW_sa), (47, O_int 0 1), (48, O_iret)]
abbrev cut_X6_tryZone : List Nat := []
set_option maxRecDepth 100000 in
theorem okc_X6_tryZone {E : En} (F : Fx E RX6 cX6_tryZone 3 1) (G : Fr E (some .int)) : CodOk E fpW cod_X6_tryZone := by
  unfold CodOk cod_X6_tryZone
  refine List.forall_mem_cons.mpr ⟨ok_aload_n F dX6_tryZone_0 rfl (by decide), ?_⟩
  refine List.forall_mem_cons.mpr ⟨ok_getf F flX6_16 dX6_tryZone_1 (by decide), ?_⟩
  refine List.forall_mem_cons.mpr ⟨ok_getf F flX6_115 dX6_tryZone_4 (by decide), ?_⟩
  refine List.forall_mem_cons.mpr ⟨ok_iload_n F dX6_tryZone_7 rfl (by decide), ?_⟩
  refine List.forall_mem_cons.mpr ⟨ok_callV F spok_X5_has ln_fp_trial_Z rcv_zW (by decide +kernel) (by decide) dX6_tryZone_8 (by decide), ?_⟩
  refine List.forall_mem_cons.mpr ⟨ok_if_ne F dX6_tryZone_11 (by decide) (by decide) (by decide), ?_⟩
  refine List.forall_mem_cons.mpr ⟨ok_iconst F dX6_tryZone_14 (by decide) (by decide), ?_⟩
  refine List.forall_mem_cons.mpr ⟨ok_iret F G dX6_tryZone_15 (by decide), ?_⟩
  refine List.forall_mem_cons.mpr ⟨ok_aload_n F dX6_tryZone_16 rfl (by decide), ?_⟩
  refine List.forall_mem_cons.mpr ⟨ok_getf F flX6_16 dX6_tryZone_17 (by decide), ?_⟩
  refine List.forall_mem_cons.mpr ⟨ok_getf F flX6_115 dX6_tryZone_20 (by decide), ?_⟩
  refine List.forall_mem_cons.mpr ⟨ok_getf F flX6_125 dX6_tryZone_23 (by decide), ?_⟩
  refine List.forall_mem_cons.mpr ⟨ok_iload_n F dX6_tryZone_26 rfl (by decide), ?_⟩
  refine List.forall_mem_cons.mpr ⟨ok_zald F dX6_tryZone_27 (by decide), ?_⟩
  refine List.forall_mem_cons.mpr ⟨ok_iload_n F dX6_tryZone_28 rfl (by decide), ?_⟩
  refine List.forall_mem_cons.mpr ⟨ok_icmp_ne F dX6_tryZone_29 (by decide) (by decide) (by decide), ?_⟩
  refine List.forall_mem_cons.mpr ⟨ok_iconst F dX6_tryZone_32 (by decide) (by decide), ?_⟩
  refine List.forall_mem_cons.mpr ⟨ok_iret F G dX6_tryZone_33 (by decide), ?_⟩
  refine List.forall_mem_cons.mpr ⟨ok_aload_n F dX6_tryZone_34 rfl (by decide), ?_⟩
  refine List.forall_mem_cons.mpr ⟨ok_getf F flX6_16 dX6_tryZone_35 (by decide), ?_⟩
  refine List.forall_mem_cons.mpr ⟨ok_getf F flX6_115 dX6_tryZone_38 (by decide), ?_⟩
  refine List.forall_mem_cons.mpr ⟨ok_getf F flX6_125 dX6_tryZone_41 (by decide), ?_⟩
  refine List.forall_mem_cons.mpr ⟨ok_iload_n F dX6_tryZone_44 rfl (by decide), ?_⟩
  refine List.forall_mem_cons.mpr ⟨ok_iload_n F dX6_tryZone_45 rfl (by decide), ?_⟩
  refine List.forall_mem_cons.mpr ⟨ok_zast F fpW_sar dX6_tryZone_46 (by decide), ?_⟩
  refine List.forall_mem_cons.mpr ⟨ok_iconst F dX6_tryZone_47 (by decide) (by decide), ?_⟩
  refine List.forall_mem_cons.mpr ⟨ok_iret F G dX6_tryZone_48 (by decide), ?_⟩
  exact fun _ h => absurd h List.not_mem_nil
set_option maxRecDepth 100000 in
theorem w_X6_tryZone : (∀ (K : Kt FT) (n : Nat) (L : xL) (st : List Value) (S : FT), nx cod_X6_tryZone cut_X6_tryZone K (n + 1) 0 L st S = (O_aload 0 1) (nx cod_X6_tryZone cut_X6_tryZone K n) 0 L st S) ∧
  (∀ (K : Kt FT) (n : Nat) (L : xL) (st : List Value) (S : FT), nx cod_X6_tryZone cut_X6_tryZone K (n + 1) 1 L st S = (O_getf fpW 6 1) (nx cod_X6_tryZone cut_X6_tryZone K n) 1 L st S) ∧
  (∀ (K : Kt FT) (n : Nat) (L : xL) (st : List Value) (S : FT), nx cod_X6_tryZone cut_X6_tryZone K (n + 1) 4 L st S = (O_getf fpW 4 2) (nx cod_X6_tryZone cut_X6_tryZone K n) 4 L st S) ∧
  (∀ (K : Kt FT) (n : Nat) (L : xL) (st : List Value) (S : FT), nx cod_X6_tryZone cut_X6_tryZone K (n + 1) 7 L st S = (O_iload 1 1) (nx cod_X6_tryZone cut_X6_tryZone K n) 7 L st S) ∧
  (∀ (K : Kt FT) (n : Nat) (L : xL) (st : List Value) (S : FT), nx cod_X6_tryZone cut_X6_tryZone K (n + 1) 8 L st S = (O_callV 1 36 (fun S : FT => S.trial.Z) (fun S u => S.sTrial (S.trial.sZ u)) sp_X5_has) (nx cod_X6_tryZone cut_X6_tryZone K n) 8 L st S) ∧
  (∀ (K : Kt FT) (n : Nat) (L : xL) (st : List Value) (S : FT), nx cod_X6_tryZone cut_X6_tryZone K (n + 1) 11 L st S = (O_if_ne 16) (nx cod_X6_tryZone cut_X6_tryZone K n) 11 L st S) ∧
  (∀ (K : Kt FT) (n : Nat) (L : xL) (st : List Value) (S : FT), nx cod_X6_tryZone cut_X6_tryZone K (n + 1) 14 L st S = (O_int 2 1) (nx cod_X6_tryZone cut_X6_tryZone K n) 14 L st S) ∧
  (∀ (K : Kt FT) (n : Nat) (L : xL) (st : List Value) (S : FT), nx cod_X6_tryZone cut_X6_tryZone K (n + 1) 15 L st S = (O_iret) (nx cod_X6_tryZone cut_X6_tryZone K n) 15 L st S) ∧
  (∀ (K : Kt FT) (n : Nat) (L : xL) (st : List Value) (S : FT), nx cod_X6_tryZone cut_X6_tryZone K (n + 1) 16 L st S = (O_aload 0 1) (nx cod_X6_tryZone cut_X6_tryZone K n) 16 L st S) ∧
  (∀ (K : Kt FT) (n : Nat) (L : xL) (st : List Value) (S : FT), nx cod_X6_tryZone cut_X6_tryZone K (n + 1) 17 L st S = (O_getf fpW 6 1) (nx cod_X6_tryZone cut_X6_tryZone K n) 17 L st S) ∧
  (∀ (K : Kt FT) (n : Nat) (L : xL) (st : List Value) (S : FT), nx cod_X6_tryZone cut_X6_tryZone K (n + 1) 20 L st S = (O_getf fpW 4 2) (nx cod_X6_tryZone cut_X6_tryZone K n) 20 L st S) ∧
  (∀ (K : Kt FT) (n : Nat) (L : xL) (st : List Value) (S : FT), nx cod_X6_tryZone cut_X6_tryZone K (n + 1) 23 L st S = (O_getf fpW 5 1) (nx cod_X6_tryZone cut_X6_tryZone K n) 23 L st S) ∧
  (∀ (K : Kt FT) (n : Nat) (L : xL) (st : List Value) (S : FT), nx cod_X6_tryZone cut_X6_tryZone K (n + 1) 26 L st S = (O_iload 1 1) (nx cod_X6_tryZone cut_X6_tryZone K n) 26 L st S) ∧
  (∀ (K : Kt FT) (n : Nat) (L : xL) (st : List Value) (S : FT), nx cod_X6_tryZone cut_X6_tryZone K (n + 1) 27 L st S = (O_ald fpW 1) (nx cod_X6_tryZone cut_X6_tryZone K n) 27 L st S) ∧
  (∀ (K : Kt FT) (n : Nat) (L : xL) (st : List Value) (S : FT), nx cod_X6_tryZone cut_X6_tryZone K (n + 1) 28 L st S = (O_iload 2 1) (nx cod_X6_tryZone cut_X6_tryZone K n) 28 L st S) ∧
  (∀ (K : Kt FT) (n : Nat) (L : xL) (st : List Value) (S : FT), nx cod_X6_tryZone cut_X6_tryZone K (n + 1) 29 L st S = (O_icmp_ne 34) (nx cod_X6_tryZone cut_X6_tryZone K n) 29 L st S) ∧
  (∀ (K : Kt FT) (n : Nat) (L : xL) (st : List Value) (S : FT), nx cod_X6_tryZone cut_X6_tryZone K (n + 1) 32 L st S = (O_int 3 1) (nx cod_X6_tryZone cut_X6_tryZone K n) 32 L st S) ∧
  (∀ (K : Kt FT) (n : Nat) (L : xL) (st : List Value) (S : FT), nx cod_X6_tryZone cut_X6_tryZone K (n + 1) 33 L st S = (O_iret) (nx cod_X6_tryZone cut_X6_tryZone K n) 33 L st S) ∧
  (∀ (K : Kt FT) (n : Nat) (L : xL) (st : List Value) (S : FT), nx cod_X6_tryZone cut_X6_tryZone K (n + 1) 34 L st S = (O_aload 0 1) (nx cod_X6_tryZone cut_X6_tryZone K n) 34 L st S) ∧
  (∀ (K : Kt FT) (n : Nat) (L : xL) (st : List Value) (S : FT), nx cod_X6_tryZone cut_X6_tryZone K (n + 1) 35 L st S = (O_getf fpW 6 1) (nx cod_X6_tryZone cut_X6_tryZone K n) 35 L st S) ∧
  (∀ (K : Kt FT) (n : Nat) (L : xL) (st : List Value) (S : FT), nx cod_X6_tryZone cut_X6_tryZone K (n + 1) 38 L st S = (O_getf fpW 4 2) (nx cod_X6_tryZone cut_X6_tryZone K n) 38 L st S) ∧
  (∀ (K : Kt FT) (n : Nat) (L : xL) (st : List Value) (S : FT), nx cod_X6_tryZone cut_X6_tryZone K (n + 1) 41 L st S = (O_getf fpW 5 1) (nx cod_X6_tryZone cut_X6_tryZone K n) 41 L st S) ∧
  (∀ (K : Kt FT) (n : Nat) (L : xL) (st : List Value) (S : FT), nx cod_X6_tryZone cut_X6_tryZone K (n + 1) 44 L st S = (O_iload 1 1) (nx cod_X6_tryZone cut_X6_tryZone K n) 44 L st S) ∧
  (∀ (K : Kt FT) (n : Nat) (L : xL) (st : List Value) (S : FT), nx cod_X6_tryZone cut_X6_tryZone K (n + 1) 45 L st S = (O_iload 2 1) (nx cod_X6_tryZone cut_X6_tryZone K n) 45 L st S) ∧
  (∀ (K : Kt FT) (n : Nat) (L : xL) (st : List Value) (S : FT), nx cod_X6_tryZone cut_X6_tryZone K (n + 1) 46 L st S = (O_ast fpW 1 fpW_sa) (nx cod_X6_tryZone cut_X6_tryZone K n) 46 L st S) ∧
  (∀ (K : Kt FT) (n : Nat) (L : xL) (st : List Value) (S : FT), nx cod_X6_tryZone cut_X6_tryZone K (n + 1) 47 L st S = (O_int 0 1) (nx cod_X6_tryZone cut_X6_tryZone K n) 47 L st S) ∧
  (∀ (K : Kt FT) (n : Nat) (L : xL) (st : List Value) (S : FT), nx cod_X6_tryZone cut_X6_tryZone K (n + 1) 48 L st S = (O_iret) (nx cod_X6_tryZone cut_X6_tryZone K n) 48 L st S) ∧
  (∀ (K : Kt FT) (n : Nat) (L : xL) (st : List Value) (S : FT), nx cod_X6_tryZone cut_X6_tryZone K (n + 1) 100000 L st S = K 100000 L st S) := by
  repeat' apply And.intro
  all_goals (intros; rfl)
set_option maxRecDepth 100000 in
theorem mk_X6_tryZone {P P' : FT} {r : Option Value} {p0 : Int32} {p1 : Int32} (body : ∀ E : En, CodOk E fpW cod_X6_tryZone → Gd E fpW 100000 [] r.toList P' → Gd E fpW 0 [some (.ref 0), some (.int p0), some (.int p1)] [] P) : Con yX6_tryZone cX6_tryZone 3 (some .int) 1 fpW [.ref 0, .int p0, .int p1] P r P' :=
  Con.of (by decide) rfl rfl (Nat.le_of_ble_eq_true rfl) (fun E F G hr => body E (okc_X6_tryZone F G) hr)
set_option maxRecDepth 10000 in
theorem con_X6_tryZone (S : FT) (z : Int32) (is : Int32) (hp : S.trial.ok ∧ b01 is) : Con yX6_tryZone cX6_tryZone 3 (some .int) 1 fpW [.ref 0, .int z, .int is] S (some (.int ((S.trial.tZone z is).1))) (S.sTrial (S.trial.tZone z is).2) := by
  refine mk_X6_tryZone (fun E C hr => ?_)
  have h3 := hp.1.2.1
  have hv := ZT.has_in (p := z) h3
  have hb0 := (b01_fits hp.2).2.2
  clear hp
  (refine nx_ok C (cuts := cut_X6_tryZone) 1000 _ _ _ _ ?_; simp only [w_X6_tryZone, ops_eq, xst_eq, call_eq, oK_eq, Option.toList_some, Option.toList_none, List.cons_append, List.nil_append, List.length_cons, List.length_nil, true_and, and_true, Nat.reduceAdd, fpW_F, fpW_A, fpW_S, fpW_P, FT_id, ST_id, FT_gs, ST_gs, PT_gs, ZT_gs, NT_gs, ET_gs, OT_gs, se_X5_has, bI_eq, hb0])
  ((repeat' (with_reducible first | apply And.intro | intro _)) <;> simp_all [ST.tZone, FT_id, ST_id, FT_gs, ST_gs, PT_gs, ZT_gs, NT_gs, ET_gs, OT_gs])
def sp_X6_tryZone : Sp FT := fun av S K => match av with
  | [.ref 0, .int z, .int is] => (S.trial.ok ∧ b01 is) ∧ K (some (.int ((S.trial.tZone z is).1))) (S.sTrial (S.trial.tZone z is).2)
  | _ => False
theorem se_X6_tryZone (z : Int32) (is : Int32) (S : FT) (K : Option Value → FT → Prop) : sp_X6_tryZone [.ref 0, .int z, .int is] S K = ((S.trial.ok ∧ b01 is) ∧ K (some (.int ((S.trial.tZone z is).1))) (S.sTrial (S.trial.tZone z is).2)) := rfl
theorem spok_X6_tryZone : SpOk yX6_tryZone cX6_tryZone 3 (some .int) 1 fpW sp_X6_tryZone := by
  intro av S K h
  unfold sp_X6_tryZone at h
  split at h
  · rename_i z is; exact ⟨some (.int ((S.trial.tZone z is).1)), S.sTrial (S.trial.tZone z is).2, trivial, con_X6_tryZone S z is h.1, h.2⟩
  · exact h.elim
def ST.tPass (T : ST) (n : Int32) : Int32 × ST := if inR n 1 240 = true ∧ ¬ 20000 < T.time + n then (0, T.mins n.toNatClampNeg) else (3, T)
def ST.order (T : ST) (l n : Int32) : Int32 × ST := if l = 115 then T.tStop n else if l = 114 then T.tReset else if l = 112 then T.tPass n else T.tZone n (bI (decide (l = 111)))
def cod_X6_tryOrder : List (Nat × Op FT) := [(0, O_iload 1 1), (1, O_int 115 2), (3, O_icmp_ne 12), (6, O_aload 0 1), (7, O_iload 2 1), (8, O_callV 1 0 (fun S => S) (fun _ S' => S') sp_X6_tryStoppingService), (11, O_iret), (12, O_iload 1 1), (13, O_int 114 2), (15, O_icmp_ne 23), (18, O_aload 0 1), (19, O_callV 0 0 (fun S => S) (fun _ S' => S') sp_X6_tryReset), (22, O_iret), (23, O_iload 1 1), (24, O_int 112 2), (26, O_icmp_eq 46), (29, O_aload 0 1), (30, O_iload 2 1), (31, O_iload 1 1), (32, O_int 111 2), (34, O_icmp_ne 41), (37, O_int 1 1), (38, O_goto 42), (41, O_int 0 1), (42, O_callV 2 0 (fun S => S) (fun _ S' => S') sp_X6_tryZone), (45, O_iret), (46, O_iload 2 1), (47, O_int 1 1), (48, O_int 240 3), (51, O_callS 3 sp_X6_within), (54, O_if_eq 72), (57, O_aload 0 1), (58, O_getf fpW 6 1), (61, O_getf fpW 4 5), (64, O_iload 2 1), (65, O_iadd), (66, O_int 20000 3), (69, O_icmp_le 74), (72, O_int 3 1), (73, O_iret), (74, O_int 0 1), (75, O_istore 3 1), (76, O_iload 3 1), (77, O_iload 2 1), (78, O_icmp_ge 94), (81, O_aload 0 1), (82, O_getf fpW 6 1), (85, O_callV 0 25 (fun S : FT => S.trial) (fun S u => S.sTrial u) sp_X4_runMinute), (88, O_iinc 3 1), (91, O_goto 76), (94, O_int 0 1), (95, O_iret)]
abbrev cut_X6_tryOrder : List Nat := [76]
set_option maxRecDepth 100000 in
theorem okc_X6_tryOrder {E : En} (F : Fx E RX6 cX6_tryOrder 4 5) (G : Fr E (some .int)) : CodOk E fpW cod_X6_tryOrder := by
  unfold CodOk cod_X6_tryOrder
  refine List.forall_mem_cons.mpr ⟨ok_iload_n F dX6_tryOrder_0 rfl (by decide), ?_⟩
  refine List.forall_mem_cons.mpr ⟨ok_bipush F dX6_tryOrder_1 (by decide) (by decide), ?_⟩
  refine List.forall_mem_cons.mpr ⟨ok_icmp_ne F dX6_tryOrder_3 (by decide) (by decide) (by decide), ?_⟩
  refine List.forall_mem_cons.mpr ⟨ok_aload_n F dX6_tryOrder_6 rfl (by decide), ?_⟩
  refine List.forall_mem_cons.mpr ⟨ok_iload_n F dX6_tryOrder_7 rfl (by decide), ?_⟩
  refine List.forall_mem_cons.mpr ⟨ok_callV F spok_X6_tryStoppingService (ln_id fpW) rcv_fpW (by decide +kernel) (by decide) dX6_tryOrder_8 (by decide), ?_⟩
  refine List.forall_mem_cons.mpr ⟨ok_iret F G dX6_tryOrder_11 (by decide), ?_⟩
  refine List.forall_mem_cons.mpr ⟨ok_iload_n F dX6_tryOrder_12 rfl (by decide), ?_⟩
  refine List.forall_mem_cons.mpr ⟨ok_bipush F dX6_tryOrder_13 (by decide) (by decide), ?_⟩
  refine List.forall_mem_cons.mpr ⟨ok_icmp_ne F dX6_tryOrder_15 (by decide) (by decide) (by decide), ?_⟩
  refine List.forall_mem_cons.mpr ⟨ok_aload_n F dX6_tryOrder_18 rfl (by decide), ?_⟩
  refine List.forall_mem_cons.mpr ⟨ok_callV F spok_X6_tryReset (ln_id fpW) rcv_fpW (by decide +kernel) (by decide) dX6_tryOrder_19 (by decide), ?_⟩
  refine List.forall_mem_cons.mpr ⟨ok_iret F G dX6_tryOrder_22 (by decide), ?_⟩
  refine List.forall_mem_cons.mpr ⟨ok_iload_n F dX6_tryOrder_23 rfl (by decide), ?_⟩
  refine List.forall_mem_cons.mpr ⟨ok_bipush F dX6_tryOrder_24 (by decide) (by decide), ?_⟩
  refine List.forall_mem_cons.mpr ⟨ok_icmp_eq F dX6_tryOrder_26 (by decide) (by decide) (by decide), ?_⟩
  refine List.forall_mem_cons.mpr ⟨ok_aload_n F dX6_tryOrder_29 rfl (by decide), ?_⟩
  refine List.forall_mem_cons.mpr ⟨ok_iload_n F dX6_tryOrder_30 rfl (by decide), ?_⟩
  refine List.forall_mem_cons.mpr ⟨ok_iload_n F dX6_tryOrder_31 rfl (by decide), ?_⟩
  refine List.forall_mem_cons.mpr ⟨ok_bipush F dX6_tryOrder_32 (by decide) (by decide), ?_⟩
  refine List.forall_mem_cons.mpr ⟨ok_icmp_ne F dX6_tryOrder_34 (by decide) (by decide) (by decide), ?_⟩
  refine List.forall_mem_cons.mpr ⟨ok_iconst F dX6_tryOrder_37 (by decide) (by decide), ?_⟩
  refine List.forall_mem_cons.mpr ⟨ok_goto F dX6_tryOrder_38 (by decide) (by decide) (by decide), ?_⟩
  refine List.forall_mem_cons.mpr ⟨ok_iconst F dX6_tryOrder_41 (by decide) (by decide), ?_⟩
  refine List.forall_mem_cons.mpr ⟨ok_callV F spok_X6_tryZone (ln_id fpW) rcv_fpW (by decide +kernel) (by decide) dX6_tryOrder_42 (by decide), ?_⟩
  refine List.forall_mem_cons.mpr ⟨ok_iret F G dX6_tryOrder_45 (by decide), ?_⟩
  refine List.forall_mem_cons.mpr ⟨ok_iload_n F dX6_tryOrder_46 rfl (by decide), ?_⟩
  refine List.forall_mem_cons.mpr ⟨ok_iconst F dX6_tryOrder_47 (by decide) (by decide), ?_⟩
  refine List.forall_mem_cons.mpr ⟨ok_sipush F dX6_tryOrder_48 (by decide) (by decide), ?_⟩
  refine List.forall_mem_cons.mpr ⟨ok_callS F spok_X6_within (by decide +kernel) rfl (by decide) dX6_tryOrder_51 (by decide), ?_⟩
  refine List.forall_mem_cons.mpr ⟨ok_if_eq F dX6_tryOrder_54 (by decide) (by decide) (by decide), ?_⟩
  refine List.forall_mem_cons.mpr ⟨ok_aload_n F dX6_tryOrder_57 rfl (by decide), ?_⟩
  refine List.forall_mem_cons.mpr ⟨ok_getf F flX6_16 dX6_tryOrder_58 (by decide), ?_⟩
  refine List.forall_mem_cons.mpr ⟨ok_getf F flX6_159 dX6_tryOrder_61 (by decide), ?_⟩
  refine List.forall_mem_cons.mpr ⟨ok_iload_n F dX6_tryOrder_64 rfl (by decide), ?_⟩
  refine List.forall_mem_cons.mpr ⟨ok_iadd F dX6_tryOrder_65 (by decide), ?_⟩
  refine List.forall_mem_cons.mpr ⟨ok_sipush F dX6_tryOrder_66 (by decide) (by decide), ?_⟩
  refine List.forall_mem_cons.mpr ⟨ok_icmp_le F dX6_tryOrder_69 (by decide) (by decide) (by decide), ?_⟩
  refine List.forall_mem_cons.mpr ⟨ok_iconst F dX6_tryOrder_72 (by decide) (by decide), ?_⟩
  refine List.forall_mem_cons.mpr ⟨ok_iret F G dX6_tryOrder_73 (by decide), ?_⟩
  refine List.forall_mem_cons.mpr ⟨ok_iconst F dX6_tryOrder_74 (by decide) (by decide), ?_⟩
  refine List.forall_mem_cons.mpr ⟨ok_istore_n F dX6_tryOrder_75 rfl (by decide) (by decide), ?_⟩
  refine List.forall_mem_cons.mpr ⟨ok_iload_n F dX6_tryOrder_76 rfl (by decide), ?_⟩
  refine List.forall_mem_cons.mpr ⟨ok_iload_n F dX6_tryOrder_77 rfl (by decide), ?_⟩
  refine List.forall_mem_cons.mpr ⟨ok_icmp_ge F dX6_tryOrder_78 (by decide) (by decide) (by decide), ?_⟩
  refine List.forall_mem_cons.mpr ⟨ok_aload_n F dX6_tryOrder_81 rfl (by decide), ?_⟩
  refine List.forall_mem_cons.mpr ⟨ok_getf F flX6_16 dX6_tryOrder_82 (by decide), ?_⟩
  refine List.forall_mem_cons.mpr ⟨ok_callV F spok_X4_runMinute ln_fp_trial rcv_stW (by decide +kernel) (by decide) dX6_tryOrder_85 (by decide), ?_⟩
  refine List.forall_mem_cons.mpr ⟨ok_iinc F dX6_tryOrder_88 (by decide) (by decide) (by decide), ?_⟩
  refine List.forall_mem_cons.mpr ⟨ok_goto F dX6_tryOrder_91 (by decide) (by decide) (by decide), ?_⟩
  refine List.forall_mem_cons.mpr ⟨ok_iconst F dX6_tryOrder_94 (by decide) (by decide), ?_⟩
  refine List.forall_mem_cons.mpr ⟨ok_iret F G dX6_tryOrder_95 (by decide), ?_⟩
  exact fun _ h => absurd h List.not_mem_nil
set_option maxRecDepth 100000 in
theorem w_X6_tryOrder : (∀ (K : Kt FT) (n : Nat) (L : xL) (st : List Value) (S : FT), nx cod_X6_tryOrder cut_X6_tryOrder K (n + 1) 0 L st S = (O_iload 1 1) (nx cod_X6_tryOrder cut_X6_tryOrder K n) 0 L st S) ∧
  (∀ (K : Kt FT) (n : Nat) (L : xL) (st : List Value) (S : FT), nx cod_X6_tryOrder cut_X6_tryOrder K (n + 1) 1 L st S = (O_int 115 2) (nx cod_X6_tryOrder cut_X6_tryOrder K n) 1 L st S) ∧
  (∀ (K : Kt FT) (n : Nat) (L : xL) (st : List Value) (S : FT), nx cod_X6_tryOrder cut_X6_tryOrder K (n + 1) 3 L st S = (O_icmp_ne 12) (nx cod_X6_tryOrder cut_X6_tryOrder K n) 3 L st S) ∧
  (∀ (K : Kt FT) (n : Nat) (L : xL) (st : List Value) (S : FT), nx cod_X6_tryOrder cut_X6_tryOrder K (n + 1) 6 L st S = (O_aload 0 1) (nx cod_X6_tryOrder cut_X6_tryOrder K n) 6 L st S) ∧
  (∀ (K : Kt FT) (n : Nat) (L : xL) (st : List Value) (S : FT), nx cod_X6_tryOrder cut_X6_tryOrder K (n + 1) 7 L st S = (O_iload 2 1) (nx cod_X6_tryOrder cut_X6_tryOrder K n) 7 L st S) ∧
  (∀ (K : Kt FT) (n : Nat) (L : xL) (st : List Value) (S : FT), nx cod_X6_tryOrder cut_X6_tryOrder K (n + 1) 8 L st S = (O_callV 1 0 (fun S => S) (fun _ S' => S') sp_X6_tryStoppingService) (nx cod_X6_tryOrder cut_X6_tryOrder K n) 8 L st S) ∧
  (∀ (K : Kt FT) (n : Nat) (L : xL) (st : List Value) (S : FT), nx cod_X6_tryOrder cut_X6_tryOrder K (n + 1) 11 L st S = (O_iret) (nx cod_X6_tryOrder cut_X6_tryOrder K n) 11 L st S) ∧
  (∀ (K : Kt FT) (n : Nat) (L : xL) (st : List Value) (S : FT), nx cod_X6_tryOrder cut_X6_tryOrder K (n + 1) 12 L st S = (O_iload 1 1) (nx cod_X6_tryOrder cut_X6_tryOrder K n) 12 L st S) ∧
  (∀ (K : Kt FT) (n : Nat) (L : xL) (st : List Value) (S : FT), nx cod_X6_tryOrder cut_X6_tryOrder K (n + 1) 13 L st S = (O_int 114 2) (nx cod_X6_tryOrder cut_X6_tryOrder K n) 13 L st S) ∧
  (∀ (K : Kt FT) (n : Nat) (L : xL) (st : List Value) (S : FT), nx cod_X6_tryOrder cut_X6_tryOrder K (n + 1) 15 L st S = (O_icmp_ne 23) (nx cod_X6_tryOrder cut_X6_tryOrder K n) 15 L st S) ∧
  (∀ (K : Kt FT) (n : Nat) (L : xL) (st : List Value) (S : FT), nx cod_X6_tryOrder cut_X6_tryOrder K (n + 1) 18 L st S = (O_aload 0 1) (nx cod_X6_tryOrder cut_X6_tryOrder K n) 18 L st S) ∧
  (∀ (K : Kt FT) (n : Nat) (L : xL) (st : List Value) (S : FT), nx cod_X6_tryOrder cut_X6_tryOrder K (n + 1) 19 L st S = (O_callV 0 0 (fun S => S) (fun _ S' => S') sp_X6_tryReset) (nx cod_X6_tryOrder cut_X6_tryOrder K n) 19 L st S) ∧
  (∀ (K : Kt FT) (n : Nat) (L : xL) (st : List Value) (S : FT), nx cod_X6_tryOrder cut_X6_tryOrder K (n + 1) 22 L st S = (O_iret) (nx cod_X6_tryOrder cut_X6_tryOrder K n) 22 L st S) ∧
  (∀ (K : Kt FT) (n : Nat) (L : xL) (st : List Value) (S : FT), nx cod_X6_tryOrder cut_X6_tryOrder K (n + 1) 23 L st S = (O_iload 1 1) (nx cod_X6_tryOrder cut_X6_tryOrder K n) 23 L st S) ∧
  (∀ (K : Kt FT) (n : Nat) (L : xL) (st : List Value) (S : FT), nx cod_X6_tryOrder cut_X6_tryOrder K (n + 1) 24 L st S = (O_int 112 2) (nx cod_X6_tryOrder cut_X6_tryOrder K n) 24 L st S) ∧
  (∀ (K : Kt FT) (n : Nat) (L : xL) (st : List Value) (S : FT), nx cod_X6_tryOrder cut_X6_tryOrder K (n + 1) 26 L st S = (O_icmp_eq 46) (nx cod_X6_tryOrder cut_X6_tryOrder K n) 26 L st S) ∧
  (∀ (K : Kt FT) (n : Nat) (L : xL) (st : List Value) (S : FT), nx cod_X6_tryOrder cut_X6_tryOrder K (n + 1) 29 L st S = (O_aload 0 1) (nx cod_X6_tryOrder cut_X6_tryOrder K n) 29 L st S) ∧
  (∀ (K : Kt FT) (n : Nat) (L : xL) (st : List Value) (S : FT), nx cod_X6_tryOrder cut_X6_tryOrder K (n + 1) 30 L st S = (O_iload 2 1) (nx cod_X6_tryOrder cut_X6_tryOrder K n) 30 L st S) ∧
  (∀ (K : Kt FT) (n : Nat) (L : xL) (st : List Value) (S : FT), nx cod_X6_tryOrder cut_X6_tryOrder K (n + 1) 31 L st S = (O_iload 1 1) (nx cod_X6_tryOrder cut_X6_tryOrder K n) 31 L st S) ∧
  (∀ (K : Kt FT) (n : Nat) (L : xL) (st : List Value) (S : FT), nx cod_X6_tryOrder cut_X6_tryOrder K (n + 1) 32 L st S = (O_int 111 2) (nx cod_X6_tryOrder cut_X6_tryOrder K n) 32 L st S) ∧
  (∀ (K : Kt FT) (n : Nat) (L : xL) (st : List Value) (S : FT), nx cod_X6_tryOrder cut_X6_tryOrder K (n + 1) 34 L st S = (O_icmp_ne 41) (nx cod_X6_tryOrder cut_X6_tryOrder K n) 34 L st S) ∧
  (∀ (K : Kt FT) (n : Nat) (L : xL) (st : List Value) (S : FT), nx cod_X6_tryOrder cut_X6_tryOrder K (n + 1) 37 L st S = (O_int 1 1) (nx cod_X6_tryOrder cut_X6_tryOrder K n) 37 L st S) ∧
  (∀ (K : Kt FT) (n : Nat) (L : xL) (st : List Value) (S : FT), nx cod_X6_tryOrder cut_X6_tryOrder K (n + 1) 38 L st S = (O_goto 42) (nx cod_X6_tryOrder cut_X6_tryOrder K n) 38 L st S) ∧
  (∀ (K : Kt FT) (n : Nat) (L : xL) (st : List Value) (S : FT), nx cod_X6_tryOrder cut_X6_tryOrder K (n + 1) 41 L st S = (O_int 0 1) (nx cod_X6_tryOrder cut_X6_tryOrder K n) 41 L st S) ∧
  (∀ (K : Kt FT) (n : Nat) (L : xL) (st : List Value) (S : FT), nx cod_X6_tryOrder cut_X6_tryOrder K (n + 1) 42 L st S = (O_callV 2 0 (fun S => S) (fun _ S' => S') sp_X6_tryZone) (nx cod_X6_tryOrder cut_X6_tryOrder K n) 42 L st S) ∧
  (∀ (K : Kt FT) (n : Nat) (L : xL) (st : List Value) (S : FT), nx cod_X6_tryOrder cut_X6_tryOrder K (n + 1) 45 L st S = (O_iret) (nx cod_X6_tryOrder cut_X6_tryOrder K n) 45 L st S) ∧
  (∀ (K : Kt FT) (n : Nat) (L : xL) (st : List Value) (S : FT), nx cod_X6_tryOrder cut_X6_tryOrder K (n + 1) 46 L st S = (O_iload 2 1) (nx cod_X6_tryOrder cut_X6_tryOrder K n) 46 L st S) ∧
  (∀ (K : Kt FT) (n : Nat) (L : xL) (st : List Value) (S : FT), nx cod_X6_tryOrder cut_X6_tryOrder K (n + 1) 47 L st S = (O_int 1 1) (nx cod_X6_tryOrder cut_X6_tryOrder K n) 47 L st S) ∧
  (∀ (K : Kt FT) (n : Nat) (L : xL) (st : List Value) (S : FT), nx cod_X6_tryOrder cut_X6_tryOrder K (n + 1) 48 L st S = (O_int 240 3) (nx cod_X6_tryOrder cut_X6_tryOrder K n) 48 L st S) ∧
  (∀ (K : Kt FT) (n : Nat) (L : xL) (st : List Value) (S : FT), nx cod_X6_tryOrder cut_X6_tryOrder K (n + 1) 51 L st S = (O_callS 3 sp_X6_within) (nx cod_X6_tryOrder cut_X6_tryOrder K n) 51 L st S) ∧
  (∀ (K : Kt FT) (n : Nat) (L : xL) (st : List Value) (S : FT), nx cod_X6_tryOrder cut_X6_tryOrder K (n + 1) 54 L st S = (O_if_eq 72) (nx cod_X6_tryOrder cut_X6_tryOrder K n) 54 L st S) ∧
  (∀ (K : Kt FT) (n : Nat) (L : xL) (st : List Value) (S : FT), nx cod_X6_tryOrder cut_X6_tryOrder K (n + 1) 57 L st S = (O_aload 0 1) (nx cod_X6_tryOrder cut_X6_tryOrder K n) 57 L st S) ∧
  (∀ (K : Kt FT) (n : Nat) (L : xL) (st : List Value) (S : FT), nx cod_X6_tryOrder cut_X6_tryOrder K (n + 1) 58 L st S = (O_getf fpW 6 1) (nx cod_X6_tryOrder cut_X6_tryOrder K n) 58 L st S) ∧
  (∀ (K : Kt FT) (n : Nat) (L : xL) (st : List Value) (S : FT), nx cod_X6_tryOrder cut_X6_tryOrder K (n + 1) 61 L st S = (O_getf fpW 4 5) (nx cod_X6_tryOrder cut_X6_tryOrder K n) 61 L st S) ∧
  (∀ (K : Kt FT) (n : Nat) (L : xL) (st : List Value) (S : FT), nx cod_X6_tryOrder cut_X6_tryOrder K (n + 1) 64 L st S = (O_iload 2 1) (nx cod_X6_tryOrder cut_X6_tryOrder K n) 64 L st S) ∧
  (∀ (K : Kt FT) (n : Nat) (L : xL) (st : List Value) (S : FT), nx cod_X6_tryOrder cut_X6_tryOrder K (n + 1) 65 L st S = (O_iadd) (nx cod_X6_tryOrder cut_X6_tryOrder K n) 65 L st S) ∧
  (∀ (K : Kt FT) (n : Nat) (L : xL) (st : List Value) (S : FT), nx cod_X6_tryOrder cut_X6_tryOrder K (n + 1) 66 L st S = (O_int 20000 3) (nx cod_X6_tryOrder cut_X6_tryOrder K n) 66 L st S) ∧
  (∀ (K : Kt FT) (n : Nat) (L : xL) (st : List Value) (S : FT), nx cod_X6_tryOrder cut_X6_tryOrder K (n + 1) 69 L st S = (O_icmp_le 74) (nx cod_X6_tryOrder cut_X6_tryOrder K n) 69 L st S) ∧
  (∀ (K : Kt FT) (n : Nat) (L : xL) (st : List Value) (S : FT), nx cod_X6_tryOrder cut_X6_tryOrder K (n + 1) 72 L st S = (O_int 3 1) (nx cod_X6_tryOrder cut_X6_tryOrder K n) 72 L st S) ∧
  (∀ (K : Kt FT) (n : Nat) (L : xL) (st : List Value) (S : FT), nx cod_X6_tryOrder cut_X6_tryOrder K (n + 1) 73 L st S = (O_iret) (nx cod_X6_tryOrder cut_X6_tryOrder K n) 73 L st S) ∧
  (∀ (K : Kt FT) (n : Nat) (L : xL) (st : List Value) (S : FT), nx cod_X6_tryOrder cut_X6_tryOrder K (n + 1) 74 L st S = (O_int 0 1) (nx cod_X6_tryOrder cut_X6_tryOrder K n) 74 L st S) ∧
  (∀ (K : Kt FT) (n : Nat) (L : xL) (st : List Value) (S : FT), nx cod_X6_tryOrder cut_X6_tryOrder K (n + 1) 75 L st S = (O_istore 3 1) (nx cod_X6_tryOrder cut_X6_tryOrder K n) 75 L st S) ∧
  (∀ (K : Kt FT) (n : Nat) (L : xL) (st : List Value) (S : FT), nx cod_X6_tryOrder cut_X6_tryOrder K (n + 1) 76 L st S = K 76 L st S) ∧
  (∀ (K : Kt FT) (n : Nat) (L : xL) (st : List Value) (S : FT), nx1 cod_X6_tryOrder cut_X6_tryOrder K n 76 L st S = (O_iload 3 1) (nx cod_X6_tryOrder cut_X6_tryOrder K n) 76 L st S) ∧
  (∀ (K : Kt FT) (n : Nat) (L : xL) (st : List Value) (S : FT), nx cod_X6_tryOrder cut_X6_tryOrder K (n + 1) 77 L st S = (O_iload 2 1) (nx cod_X6_tryOrder cut_X6_tryOrder K n) 77 L st S) ∧
  (∀ (K : Kt FT) (n : Nat) (L : xL) (st : List Value) (S : FT), nx cod_X6_tryOrder cut_X6_tryOrder K (n + 1) 78 L st S = (O_icmp_ge 94) (nx cod_X6_tryOrder cut_X6_tryOrder K n) 78 L st S) ∧
  (∀ (K : Kt FT) (n : Nat) (L : xL) (st : List Value) (S : FT), nx cod_X6_tryOrder cut_X6_tryOrder K (n + 1) 81 L st S = (O_aload 0 1) (nx cod_X6_tryOrder cut_X6_tryOrder K n) 81 L st S) ∧
  (∀ (K : Kt FT) (n : Nat) (L : xL) (st : List Value) (S : FT), nx cod_X6_tryOrder cut_X6_tryOrder K (n + 1) 82 L st S = (O_getf fpW 6 1) (nx cod_X6_tryOrder cut_X6_tryOrder K n) 82 L st S) ∧
  (∀ (K : Kt FT) (n : Nat) (L : xL) (st : List Value) (S : FT), nx cod_X6_tryOrder cut_X6_tryOrder K (n + 1) 85 L st S = (O_callV 0 25 (fun S : FT => S.trial) (fun S u => S.sTrial u) sp_X4_runMinute) (nx cod_X6_tryOrder cut_X6_tryOrder K n) 85 L st S) ∧
  (∀ (K : Kt FT) (n : Nat) (L : xL) (st : List Value) (S : FT), nx cod_X6_tryOrder cut_X6_tryOrder K (n + 1) 88 L st S = (O_iinc 3 1) (nx cod_X6_tryOrder cut_X6_tryOrder K n) 88 L st S) ∧
  (∀ (K : Kt FT) (n : Nat) (L : xL) (st : List Value) (S : FT), nx cod_X6_tryOrder cut_X6_tryOrder K (n + 1) 91 L st S = (O_goto 76) (nx cod_X6_tryOrder cut_X6_tryOrder K n) 91 L st S) ∧
  (∀ (K : Kt FT) (n : Nat) (L : xL) (st : List Value) (S : FT), nx cod_X6_tryOrder cut_X6_tryOrder K (n + 1) 94 L st S = (O_int 0 1) (nx cod_X6_tryOrder cut_X6_tryOrder K n) 94 L st S) ∧
  (∀ (K : Kt FT) (n : Nat) (L : xL) (st : List Value) (S : FT), nx cod_X6_tryOrder cut_X6_tryOrder K (n + 1) 95 L st S = (O_iret) (nx cod_X6_tryOrder cut_X6_tryOrder K n) 95 L st S) ∧
  (∀ (K : Kt FT) (n : Nat) (L : xL) (st : List Value) (S : FT), nx cod_X6_tryOrder cut_X6_tryOrder K (n + 1) 100000 L st S = K 100000 L st S) := by
  repeat' apply And.intro
  all_goals (intros; rfl)
set_option maxRecDepth 100000 in
theorem mk_X6_tryOrder {P P' : FT} {r : Option Value} {p0 : Int32} {p1 : Int32} (body : ∀ E : En, CodOk E fpW cod_X6_tryOrder → Gd E fpW 100000 [] r.toList P' → Gd E fpW 0 [some (.ref 0), some (.int p0), some (.int p1), none] [] P) : Con yX6_tryOrder cX6_tryOrder 4 (some .int) 5 fpW [.ref 0, .int p0, .int p1] P r P' :=
  Con.of (by decide) rfl rfl (Nat.le_of_ble_eq_true rfl) (fun E F G hr => body E (okc_X6_tryOrder F G) hr)
set_option maxRecDepth 10000 in
theorem con_X6_tryOrder (S : FT) (l : Int32) (n : Int32) (hp : S.trial.okk) : Con yX6_tryOrder cX6_tryOrder 4 (some .int) 5 fpW [.ref 0, .int l, .int n] S (some (.int ((S.trial.order l n).1))) (S.sTrial (S.trial.order l n).2) := by
  refine mk_X6_tryOrder (fun E C hr => ?_)
  have h3 := hp.1
  have key : ¬ l = 115 → ¬ l = 114 → l = 112 → inR n 1 240 = true → ¬ 20000 < S.trial.time + n → Gd E fpW 76 [some (.ref 0), some (.int l), some (.int n), some (.int (nI 0))] [] S := by
    intro q1 q2 q3 hc ht
    have e : S.trial.order l n = (0, S.trial.mins n.toNatClampNeg) := by
      unfold ST.order ST.tPass
      rw [if_neg q1, if_neg q2, if_pos q3, if_pos ⟨hc, ht⟩]
    rw [e] at hr
    clear e
    obtain ⟨hm, hb⟩ := inR_n hc (by decide) (by decide)
    refine it_up (f := fun _ T => ST.minute T) (a := S.trial) (n := n.toNatClampNeg) (fun _ T => T.okk) (fun i T => Gd E fpW 76 [some (.ref 0), some (.int l), some (.int n), some (.int (nI i))] [] (S.sTrial T)) hp (fun i T hi hT => ST.minute_okk hT) (fun i T hi hT hn => ?_) ?_
    · have hx := lps hm hb hi
      clear hm hb
      have hk := hT.1
      clear hr
      (refine nx1_ok C cut_X6_tryOrder 1000 ?_; simp only [w_X6_tryOrder, ops_eq, xst_eq, call_eq, oK_eq, Option.toList_some, Option.toList_none, List.cons_append, List.nil_append, List.length_cons, List.length_nil, true_and, and_true, Nat.reduceAdd, fpW_F, fpW_A, fpW_S, fpW_P, FT_id, ST_id, FT_gs, ST_gs, PT_gs, ZT_gs, NT_gs, ET_gs, OT_gs, se_X6_tryStoppingService, se_X6_tryReset, se_X6_tryZone, se_X6_within, se_X4_runMinute, hx, hk])
      ((repeat' (with_reducible first | apply And.intro | intro _)) <;> simp_all [FT_id, ST_id, FT_gs, ST_gs, PT_gs, ZT_gs, NT_gs, ET_gs, OT_gs])
    · have hx := lpe hm hb
      clear hm hb
      (refine nx1_ok C cut_X6_tryOrder 1000 ?_; simp only [w_X6_tryOrder, ops_eq, xst_eq, call_eq, oK_eq, Option.toList_some, Option.toList_none, List.cons_append, List.nil_append, List.length_cons, List.length_nil, true_and, and_true, Nat.reduceAdd, fpW_F, fpW_A, fpW_S, fpW_P, FT_id, ST_id, FT_gs, ST_gs, PT_gs, ZT_gs, NT_gs, ET_gs, OT_gs, se_X6_tryStoppingService, se_X6_tryReset, se_X6_tryZone, se_X6_within, se_X4_runMinute, hx])
      ((repeat' (with_reducible first | apply And.intro | intro _)) <;> simp_all [ST.mins, FT_id, ST_id, FT_gs, ST_gs, PT_gs, ZT_gs, NT_gs, ET_gs, OT_gs])
  have hb0 : b01 0 := Or.inl rfl
  have hb1 : b01 1 := Or.inr rfl
  (refine nx_ok C (cuts := cut_X6_tryOrder) 1000 _ _ _ _ ?_; simp only [w_X6_tryOrder, ops_eq, xst_eq, call_eq, oK_eq, Option.toList_some, Option.toList_none, List.cons_append, List.nil_append, List.length_cons, List.length_nil, true_and, and_true, Nat.reduceAdd, fpW_F, fpW_A, fpW_S, fpW_P, FT_id, ST_id, FT_gs, ST_gs, PT_gs, ZT_gs, NT_gs, ET_gs, OT_gs, se_X6_tryStoppingService, se_X6_tryReset, se_X6_tryZone, se_X6_within, se_X4_runMinute, bI_eq, h3, hb0, hb1])
  ((repeat' (with_reducible first | apply And.intro | intro _)) <;> simp_all [ST.order, ST.tPass, nI_0, bI, FT_id, ST_id, FT_gs, ST_gs, PT_gs, ZT_gs, NT_gs, ET_gs, OT_gs])
def sp_X6_tryOrder : Sp FT := fun av S K => match av with
  | [.ref 0, .int l, .int n] => (S.trial.okk) ∧ K (some (.int ((S.trial.order l n).1))) (S.sTrial (S.trial.order l n).2)
  | _ => False
theorem se_X6_tryOrder (l : Int32) (n : Int32) (S : FT) (K : Option Value → FT → Prop) : sp_X6_tryOrder [.ref 0, .int l, .int n] S K = ((S.trial.okk) ∧ K (some (.int ((S.trial.order l n).1))) (S.sTrial (S.trial.order l n).2)) := rfl
theorem spok_X6_tryOrder : SpOk yX6_tryOrder cX6_tryOrder 4 (some .int) 5 fpW sp_X6_tryOrder := by
  intro av S K h
  unfold sp_X6_tryOrder at h
  split at h
  · rename_i l n; exact ⟨some (.int ((S.trial.order l n).1)), S.sTrial (S.trial.order l n).2, trivial, con_X6_tryOrder S l n h.1, h.2⟩
  · exact h.elim
/-- the orders, at most f of them, from a trial and the orders' state -/
def trys : Nat → ST → OT → Int32 × ST × OT
  | 0, T, O => (0, T, O)
  | f + 1, T, O => if ¬ O.place < O.length then (0, T, O) else
    if O.read.1 = false then (1, T, O.read.2) else
    if ¬ (T.order O.read.2.letter O.read.2.number).1 = 0 then ((T.order O.read.2.letter O.read.2.number).1, (T.order O.read.2.letter O.read.2.number).2, O.read.2) else
    trys f (T.order O.read.2.letter O.read.2.number).2 ((O.read.2.sPlace O.read.2.behind).sDone (O.read.2.done + 1))
theorem ST.tStop_okk {T : ST} (h : T.okk) (p : Int32) : (T.tStop p).2.okk := by
  unfold ST.tStop
  split
  · exact h
  · split
    · exact h
    · exact ⟨ST.calm_ok h.1 (ST.change_calm _ _ _), ST.change_bits h.2 _ (Or.inl rfl)⟩
theorem ST.tReset_okk {T : ST} (h : T.okk) : T.tReset.2.okk := by
  unfold ST.tReset
  split
  · exact h
  · exact ⟨ST.calm_ok h.1 (ST.calm_tr (ST.calm_set.2.2.2.2.1 _ _) (ST.goOn_calm _)), ST.goOn_bits (ST.bits_set.2.2.2.2.1 _ _ h.2)⟩
theorem ST.tZone_okk {T : ST} (h : T.okk) (z : Int32) {is : Int32} (hi : b01 is) : (T.tZone z is).2.okk := by
  unfold ST.tZone
  split
  · exact h
  · split
    · exact h
    · exact ⟨⟨h.1.1, h.1.2.1, h.1.2.2⟩, ⟨h.2.1, ZT.bits_set h.2.2.1 _ hi, h.2.2.2⟩⟩
theorem ST.order_okk {T : ST} (h : T.okk) (l n : Int32) : (T.order l n).2.okk := by
  unfold ST.order
  split
  · exact ST.tStop_okk h _
  · split
    · exact ST.tReset_okk h
    · split
      · unfold ST.tPass
        split
        · exact ST.mins_okk h _
        · exact h
      · exact ST.tZone_okk h _ (b01_bI _)
theorem OT.read_text (O : OT) : O.read.2.text = O.text ∧ O.read.2.length = O.length := by
  unfold OT.read
  split
  · exact ⟨rfl, rfl⟩
  · have h := OT.digs_text 3 0 O.rd0
    exact ⟨h.1.trans rfl, h.2.1.trans rfl⟩
def OT.okc (O : OT) : Prop := O.ok ∧ O.chars
theorem OT.okc_of {O O' : OT} (h : O.okc) (e1 : O'.text = O.text) (e2 : O'.length = O.length) : O'.okc := by
  obtain ⟨h1, h2⟩ := h
  unfold OT.ok OT.n at h1
  unfold OT.chars at h2
  refine ⟨?_, ?_⟩
  · unfold OT.ok OT.n
    rw [e2]; exact h1
  · unfold OT.chars
    rw [e1]; exact h2
theorem OT.read_okc {O : OT} (h : O.okc) : O.read.2.okc := OT.okc_of h (OT.read_text O).1 (OT.read_text O).2
theorem OT.next_okc {O : OT} (h : O.okc) (x y : Int32) : ((O.sPlace x).sDone y).okc := OT.okc_of h rfl rfl
theorem trys_ok : ∀ (f : Nat) (T : ST) (O : OT), T.okk → O.okc → (trys f T O).2.1.okk ∧ (trys f T O).2.2.okc
  | 0, T, O, h1, h2 => ⟨h1, h2⟩
  | f + 1, T, O, h1, h2 => by
    unfold trys
    split
    · exact ⟨h1, h2⟩
    · split
      · exact ⟨h1, OT.read_okc h2⟩
      · split
        · exact ⟨ST.order_okk h1 _ _, OT.read_okc h2⟩
        · exact trys_ok f _ _ (ST.order_okk h1 _ _) (OT.next_okc (OT.read_okc h2) _ _)
def FT.tried (S : FT) : Int32 × ST × OT := trys 60 S.now ((S.O.sPlace 0).sDone 0)
def FT.aft (S : FT) : FT := (S.sTrial S.tried.2.1).sO S.tried.2.2
theorem n60 : ∀ i, i < 60 → nI i < 60 ∧ nI i + 1 = nI (i + 1) := by decide +kernel
theorem FT_ee : (∀ (S : FT) (T T2 : ST) (O : OT), ((S.sTrial T).sO O).sTrial T2 = (S.sTrial T2).sO O) ∧ (∀ (S : FT) (T : ST) (O O2 : OT), ((S.sTrial T).sO O).sO O2 = (S.sTrial T).sO O2) := ⟨fun _ _ _ _ => rfl, fun _ _ _ _ => rfl⟩
theorem flX6_267 : fldOk RX6 267 2 5 = true := by decide +kernel
theorem flX6_271 : fldOk RX6 271 2 6 = true := by decide +kernel
def cod_X6_tryOrders : List (Nat × Op FT) := [(0, O_aload 0 1), (1, O_getf fpW 6 1), (4, O_aload 0 1), (5, O_getf fpW 6 0), (8, O_callC 25 1 24 (fun S : FT => (S.trial, S.now)) (fun S u => (S.sTrial u.1).sNow u.2) sp_X4_copyFrom), (11, O_aload 0 1), (12, O_getf fpW 6 4), (15, O_callV 0 50 (fun S : FT => S.O) (fun S u => S.sO u) sp_X2_begin), (18, O_int 0 1), (19, O_istore 1 1), (20, O_iload 1 1), (21, O_int 60 2), (23, O_icmp_ge 88), (26, O_aload 0 1), (27, O_getf fpW 6 4), (30, O_callV 0 50 (fun S : FT => S.O) (fun S u => S.sO u) sp_X2_atEnd), (33, O_if_ne 88), (36, O_aload 0 1), (37, O_getf fpW 6 4), (40, O_callV 0 50 (fun S : FT => S.O) (fun S u => S.sO u) sp_X2_read), (43, O_if_eq 67), (46, O_aload 0 1), (47, O_aload 0 1), (48, O_getf fpW 6 4), (51, O_getf fpW 2 5), (54, O_aload 0 1), (55, O_getf fpW 6 4), (58, O_getf fpW 2 6), (61, O_callV 2 0 (fun S => S) (fun _ S' => S') sp_X6_tryOrder), (64, O_goto 68), (67, O_int 1 1), (68, O_istore 2 1), (69, O_iload 2 1), (70, O_if_eq 75), (73, O_iload 2 1), (74, O_iret), (75, O_aload 0 1), (76, O_getf fpW 6 4), (79, O_callV 0 50 (fun S : FT => S.O) (fun S u => S.sO u) sp_X2_next), (82, O_iinc 1 1), (85, O_goto 20), (88, O_int 0 1), (89, O_iret)]
abbrev cut_X6_tryOrders : List Nat := [20]
set_option maxRecDepth 100000 in
theorem okc_X6_tryOrders {E : En} (F : Fx E RX6 cX6_tryOrders 3 6) (G : Fr E (some .int)) : CodOk E fpW cod_X6_tryOrders := by
  unfold CodOk cod_X6_tryOrders
  refine List.forall_mem_cons.mpr ⟨ok_aload_n F dX6_tryOrders_0 rfl (by decide), ?_⟩
  refine List.forall_mem_cons.mpr ⟨ok_getf F flX6_16 dX6_tryOrders_1 (by decide), ?_⟩
  refine List.forall_mem_cons.mpr ⟨ok_aload_n F dX6_tryOrders_4 rfl (by decide), ?_⟩
  refine List.forall_mem_cons.mpr ⟨ok_getf F flX6_10 dX6_tryOrders_5 (by decide), ?_⟩
  refine List.forall_mem_cons.mpr ⟨ok_callC F (by decide) spok_X4_copyFrom ln2_fp_trial_now rcv_stW (by decide +kernel) (by decide) dX6_tryOrders_8 (by decide), ?_⟩
  refine List.forall_mem_cons.mpr ⟨ok_aload_n F dX6_tryOrders_11 rfl (by decide), ?_⟩
  refine List.forall_mem_cons.mpr ⟨ok_getf F flX6_26 dX6_tryOrders_12 (by decide), ?_⟩
  refine List.forall_mem_cons.mpr ⟨ok_callV F spok_X2_begin ln_fp_O rcv_oW (by decide +kernel) (by decide) dX6_tryOrders_15 (by decide), ?_⟩
  refine List.forall_mem_cons.mpr ⟨ok_iconst F dX6_tryOrders_18 (by decide) (by decide), ?_⟩
  refine List.forall_mem_cons.mpr ⟨ok_istore_n F dX6_tryOrders_19 rfl (by decide) (by decide), ?_⟩
  refine List.forall_mem_cons.mpr ⟨ok_iload_n F dX6_tryOrders_20 rfl (by decide), ?_⟩
  refine List.forall_mem_cons.mpr ⟨ok_bipush F dX6_tryOrders_21 (by decide) (by decide), ?_⟩
  refine List.forall_mem_cons.mpr ⟨ok_icmp_ge F dX6_tryOrders_23 (by decide) (by decide) (by decide), ?_⟩
  refine List.forall_mem_cons.mpr ⟨ok_aload_n F dX6_tryOrders_26 rfl (by decide), ?_⟩
  refine List.forall_mem_cons.mpr ⟨ok_getf F flX6_26 dX6_tryOrders_27 (by decide), ?_⟩
  refine List.forall_mem_cons.mpr ⟨ok_callV F spok_X2_atEnd ln_fp_O rcv_oW (by decide +kernel) (by decide) dX6_tryOrders_30 (by decide), ?_⟩
  refine List.forall_mem_cons.mpr ⟨ok_if_ne F dX6_tryOrders_33 (by decide) (by decide) (by decide), ?_⟩
  refine List.forall_mem_cons.mpr ⟨ok_aload_n F dX6_tryOrders_36 rfl (by decide), ?_⟩
  refine List.forall_mem_cons.mpr ⟨ok_getf F flX6_26 dX6_tryOrders_37 (by decide), ?_⟩
  refine List.forall_mem_cons.mpr ⟨ok_callV F spok_X2_read ln_fp_O rcv_oW (by decide +kernel) (by decide) dX6_tryOrders_40 (by decide), ?_⟩
  refine List.forall_mem_cons.mpr ⟨ok_if_eq F dX6_tryOrders_43 (by decide) (by decide) (by decide), ?_⟩
  refine List.forall_mem_cons.mpr ⟨ok_aload_n F dX6_tryOrders_46 rfl (by decide), ?_⟩
  refine List.forall_mem_cons.mpr ⟨ok_aload_n F dX6_tryOrders_47 rfl (by decide), ?_⟩
  refine List.forall_mem_cons.mpr ⟨ok_getf F flX6_26 dX6_tryOrders_48 (by decide), ?_⟩
  refine List.forall_mem_cons.mpr ⟨ok_getf F flX6_267 dX6_tryOrders_51 (by decide), ?_⟩
  refine List.forall_mem_cons.mpr ⟨ok_aload_n F dX6_tryOrders_54 rfl (by decide), ?_⟩
  refine List.forall_mem_cons.mpr ⟨ok_getf F flX6_26 dX6_tryOrders_55 (by decide), ?_⟩
  refine List.forall_mem_cons.mpr ⟨ok_getf F flX6_271 dX6_tryOrders_58 (by decide), ?_⟩
  refine List.forall_mem_cons.mpr ⟨ok_callV F spok_X6_tryOrder (ln_id fpW) rcv_fpW (by decide +kernel) (by decide) dX6_tryOrders_61 (by decide), ?_⟩
  refine List.forall_mem_cons.mpr ⟨ok_goto F dX6_tryOrders_64 (by decide) (by decide) (by decide), ?_⟩
  refine List.forall_mem_cons.mpr ⟨ok_iconst F dX6_tryOrders_67 (by decide) (by decide), ?_⟩
  refine List.forall_mem_cons.mpr ⟨ok_istore_n F dX6_tryOrders_68 rfl (by decide) (by decide), ?_⟩
  refine List.forall_mem_cons.mpr ⟨ok_iload_n F dX6_tryOrders_69 rfl (by decide), ?_⟩
  refine List.forall_mem_cons.mpr ⟨ok_if_eq F dX6_tryOrders_70 (by decide) (by decide) (by decide), ?_⟩
  refine List.forall_mem_cons.mpr ⟨ok_iload_n F dX6_tryOrders_73 rfl (by decide), ?_⟩
  refine List.forall_mem_cons.mpr ⟨ok_iret F G dX6_tryOrders_74 (by decide), ?_⟩
  refine List.forall_mem_cons.mpr ⟨ok_aload_n F dX6_tryOrders_75 rfl (by decide), ?_⟩
  refine List.forall_mem_cons.mpr ⟨ok_getf F flX6_26 dX6_tryOrders_76 (by decide), ?_⟩
  refine List.forall_mem_cons.mpr ⟨ok_callV F spok_X2_next ln_fp_O rcv_oW (by decide +kernel) (by decide) dX6_tryOrders_79 (by decide), ?_⟩
  refine List.forall_mem_cons.mpr ⟨ok_iinc F dX6_tryOrders_82 (by decide) (by decide) (by decide), ?_⟩
  refine List.forall_mem_cons.mpr ⟨ok_goto F dX6_tryOrders_85 (by decide) (by decide) (by decide), ?_⟩
  refine List.forall_mem_cons.mpr ⟨ok_iconst F dX6_tryOrders_88 (by decide) (by decide), ?_⟩
  refine List.forall_mem_cons.mpr ⟨ok_iret F G dX6_tryOrders_89 (by decide), ?_⟩
  exact fun _ h => absurd h List.not_mem_nil
set_option maxRecDepth 100000 in
theorem w_X6_tryOrders : (∀ (K : Kt FT) (n : Nat) (L : xL) (st : List Value) (S : FT), nx cod_X6_tryOrders cut_X6_tryOrders K (n + 1) 0 L st S = (O_aload 0 1) (nx cod_X6_tryOrders cut_X6_tryOrders K n) 0 L st S) ∧
  (∀ (K : Kt FT) (n : Nat) (L : xL) (st : List Value) (S : FT), nx cod_X6_tryOrders cut_X6_tryOrders K (n + 1) 1 L st S = (O_getf fpW 6 1) (nx cod_X6_tryOrders cut_X6_tryOrders K n) 1 L st S) ∧
  (∀ (K : Kt FT) (n : Nat) (L : xL) (st : List Value) (S : FT), nx cod_X6_tryOrders cut_X6_tryOrders K (n + 1) 4 L st S = (O_aload 0 1) (nx cod_X6_tryOrders cut_X6_tryOrders K n) 4 L st S) ∧
  (∀ (K : Kt FT) (n : Nat) (L : xL) (st : List Value) (S : FT), nx cod_X6_tryOrders cut_X6_tryOrders K (n + 1) 5 L st S = (O_getf fpW 6 0) (nx cod_X6_tryOrders cut_X6_tryOrders K n) 5 L st S) ∧
  (∀ (K : Kt FT) (n : Nat) (L : xL) (st : List Value) (S : FT), nx cod_X6_tryOrders cut_X6_tryOrders K (n + 1) 8 L st S = (O_callC 25 1 24 (fun S : FT => (S.trial, S.now)) (fun S u => (S.sTrial u.1).sNow u.2) sp_X4_copyFrom) (nx cod_X6_tryOrders cut_X6_tryOrders K n) 8 L st S) ∧
  (∀ (K : Kt FT) (n : Nat) (L : xL) (st : List Value) (S : FT), nx cod_X6_tryOrders cut_X6_tryOrders K (n + 1) 11 L st S = (O_aload 0 1) (nx cod_X6_tryOrders cut_X6_tryOrders K n) 11 L st S) ∧
  (∀ (K : Kt FT) (n : Nat) (L : xL) (st : List Value) (S : FT), nx cod_X6_tryOrders cut_X6_tryOrders K (n + 1) 12 L st S = (O_getf fpW 6 4) (nx cod_X6_tryOrders cut_X6_tryOrders K n) 12 L st S) ∧
  (∀ (K : Kt FT) (n : Nat) (L : xL) (st : List Value) (S : FT), nx cod_X6_tryOrders cut_X6_tryOrders K (n + 1) 15 L st S = (O_callV 0 50 (fun S : FT => S.O) (fun S u => S.sO u) sp_X2_begin) (nx cod_X6_tryOrders cut_X6_tryOrders K n) 15 L st S) ∧
  (∀ (K : Kt FT) (n : Nat) (L : xL) (st : List Value) (S : FT), nx cod_X6_tryOrders cut_X6_tryOrders K (n + 1) 18 L st S = (O_int 0 1) (nx cod_X6_tryOrders cut_X6_tryOrders K n) 18 L st S) ∧
  (∀ (K : Kt FT) (n : Nat) (L : xL) (st : List Value) (S : FT), nx cod_X6_tryOrders cut_X6_tryOrders K (n + 1) 19 L st S = (O_istore 1 1) (nx cod_X6_tryOrders cut_X6_tryOrders K n) 19 L st S) ∧
  (∀ (K : Kt FT) (n : Nat) (L : xL) (st : List Value) (S : FT), nx cod_X6_tryOrders cut_X6_tryOrders K (n + 1) 20 L st S = K 20 L st S) ∧
  (∀ (K : Kt FT) (n : Nat) (L : xL) (st : List Value) (S : FT), nx1 cod_X6_tryOrders cut_X6_tryOrders K n 20 L st S = (O_iload 1 1) (nx cod_X6_tryOrders cut_X6_tryOrders K n) 20 L st S) ∧
  (∀ (K : Kt FT) (n : Nat) (L : xL) (st : List Value) (S : FT), nx cod_X6_tryOrders cut_X6_tryOrders K (n + 1) 21 L st S = (O_int 60 2) (nx cod_X6_tryOrders cut_X6_tryOrders K n) 21 L st S) ∧
  (∀ (K : Kt FT) (n : Nat) (L : xL) (st : List Value) (S : FT), nx cod_X6_tryOrders cut_X6_tryOrders K (n + 1) 23 L st S = (O_icmp_ge 88) (nx cod_X6_tryOrders cut_X6_tryOrders K n) 23 L st S) ∧
  (∀ (K : Kt FT) (n : Nat) (L : xL) (st : List Value) (S : FT), nx cod_X6_tryOrders cut_X6_tryOrders K (n + 1) 26 L st S = (O_aload 0 1) (nx cod_X6_tryOrders cut_X6_tryOrders K n) 26 L st S) ∧
  (∀ (K : Kt FT) (n : Nat) (L : xL) (st : List Value) (S : FT), nx cod_X6_tryOrders cut_X6_tryOrders K (n + 1) 27 L st S = (O_getf fpW 6 4) (nx cod_X6_tryOrders cut_X6_tryOrders K n) 27 L st S) ∧
  (∀ (K : Kt FT) (n : Nat) (L : xL) (st : List Value) (S : FT), nx cod_X6_tryOrders cut_X6_tryOrders K (n + 1) 30 L st S = (O_callV 0 50 (fun S : FT => S.O) (fun S u => S.sO u) sp_X2_atEnd) (nx cod_X6_tryOrders cut_X6_tryOrders K n) 30 L st S) ∧
  (∀ (K : Kt FT) (n : Nat) (L : xL) (st : List Value) (S : FT), nx cod_X6_tryOrders cut_X6_tryOrders K (n + 1) 33 L st S = (O_if_ne 88) (nx cod_X6_tryOrders cut_X6_tryOrders K n) 33 L st S) ∧
  (∀ (K : Kt FT) (n : Nat) (L : xL) (st : List Value) (S : FT), nx cod_X6_tryOrders cut_X6_tryOrders K (n + 1) 36 L st S = (O_aload 0 1) (nx cod_X6_tryOrders cut_X6_tryOrders K n) 36 L st S) ∧
  (∀ (K : Kt FT) (n : Nat) (L : xL) (st : List Value) (S : FT), nx cod_X6_tryOrders cut_X6_tryOrders K (n + 1) 37 L st S = (O_getf fpW 6 4) (nx cod_X6_tryOrders cut_X6_tryOrders K n) 37 L st S) ∧
  (∀ (K : Kt FT) (n : Nat) (L : xL) (st : List Value) (S : FT), nx cod_X6_tryOrders cut_X6_tryOrders K (n + 1) 40 L st S = (O_callV 0 50 (fun S : FT => S.O) (fun S u => S.sO u) sp_X2_read) (nx cod_X6_tryOrders cut_X6_tryOrders K n) 40 L st S) ∧
  (∀ (K : Kt FT) (n : Nat) (L : xL) (st : List Value) (S : FT), nx cod_X6_tryOrders cut_X6_tryOrders K (n + 1) 43 L st S = (O_if_eq 67) (nx cod_X6_tryOrders cut_X6_tryOrders K n) 43 L st S) ∧
  (∀ (K : Kt FT) (n : Nat) (L : xL) (st : List Value) (S : FT), nx cod_X6_tryOrders cut_X6_tryOrders K (n + 1) 46 L st S = (O_aload 0 1) (nx cod_X6_tryOrders cut_X6_tryOrders K n) 46 L st S) ∧
  (∀ (K : Kt FT) (n : Nat) (L : xL) (st : List Value) (S : FT), nx cod_X6_tryOrders cut_X6_tryOrders K (n + 1) 47 L st S = (O_aload 0 1) (nx cod_X6_tryOrders cut_X6_tryOrders K n) 47 L st S) ∧
  (∀ (K : Kt FT) (n : Nat) (L : xL) (st : List Value) (S : FT), nx cod_X6_tryOrders cut_X6_tryOrders K (n + 1) 48 L st S = (O_getf fpW 6 4) (nx cod_X6_tryOrders cut_X6_tryOrders K n) 48 L st S) ∧
  (∀ (K : Kt FT) (n : Nat) (L : xL) (st : List Value) (S : FT), nx cod_X6_tryOrders cut_X6_tryOrders K (n + 1) 51 L st S = (O_getf fpW 2 5) (nx cod_X6_tryOrders cut_X6_tryOrders K n) 51 L st S) ∧
  (∀ (K : Kt FT) (n : Nat) (L : xL) (st : List Value) (S : FT), nx cod_X6_tryOrders cut_X6_tryOrders K (n + 1) 54 L st S = (O_aload 0 1) (nx cod_X6_tryOrders cut_X6_tryOrders K n) 54 L st S) ∧
  (∀ (K : Kt FT) (n : Nat) (L : xL) (st : List Value) (S : FT), nx cod_X6_tryOrders cut_X6_tryOrders K (n + 1) 55 L st S = (O_getf fpW 6 4) (nx cod_X6_tryOrders cut_X6_tryOrders K n) 55 L st S) ∧
  (∀ (K : Kt FT) (n : Nat) (L : xL) (st : List Value) (S : FT), nx cod_X6_tryOrders cut_X6_tryOrders K (n + 1) 58 L st S = (O_getf fpW 2 6) (nx cod_X6_tryOrders cut_X6_tryOrders K n) 58 L st S) ∧
  (∀ (K : Kt FT) (n : Nat) (L : xL) (st : List Value) (S : FT), nx cod_X6_tryOrders cut_X6_tryOrders K (n + 1) 61 L st S = (O_callV 2 0 (fun S => S) (fun _ S' => S') sp_X6_tryOrder) (nx cod_X6_tryOrders cut_X6_tryOrders K n) 61 L st S) ∧
  (∀ (K : Kt FT) (n : Nat) (L : xL) (st : List Value) (S : FT), nx cod_X6_tryOrders cut_X6_tryOrders K (n + 1) 64 L st S = (O_goto 68) (nx cod_X6_tryOrders cut_X6_tryOrders K n) 64 L st S) ∧
  (∀ (K : Kt FT) (n : Nat) (L : xL) (st : List Value) (S : FT), nx cod_X6_tryOrders cut_X6_tryOrders K (n + 1) 67 L st S = (O_int 1 1) (nx cod_X6_tryOrders cut_X6_tryOrders K n) 67 L st S) ∧
  (∀ (K : Kt FT) (n : Nat) (L : xL) (st : List Value) (S : FT), nx cod_X6_tryOrders cut_X6_tryOrders K (n + 1) 68 L st S = (O_istore 2 1) (nx cod_X6_tryOrders cut_X6_tryOrders K n) 68 L st S) ∧
  (∀ (K : Kt FT) (n : Nat) (L : xL) (st : List Value) (S : FT), nx cod_X6_tryOrders cut_X6_tryOrders K (n + 1) 69 L st S = (O_iload 2 1) (nx cod_X6_tryOrders cut_X6_tryOrders K n) 69 L st S) ∧
  (∀ (K : Kt FT) (n : Nat) (L : xL) (st : List Value) (S : FT), nx cod_X6_tryOrders cut_X6_tryOrders K (n + 1) 70 L st S = (O_if_eq 75) (nx cod_X6_tryOrders cut_X6_tryOrders K n) 70 L st S) ∧
  (∀ (K : Kt FT) (n : Nat) (L : xL) (st : List Value) (S : FT), nx cod_X6_tryOrders cut_X6_tryOrders K (n + 1) 73 L st S = (O_iload 2 1) (nx cod_X6_tryOrders cut_X6_tryOrders K n) 73 L st S) ∧
  (∀ (K : Kt FT) (n : Nat) (L : xL) (st : List Value) (S : FT), nx cod_X6_tryOrders cut_X6_tryOrders K (n + 1) 74 L st S = (O_iret) (nx cod_X6_tryOrders cut_X6_tryOrders K n) 74 L st S) ∧
  (∀ (K : Kt FT) (n : Nat) (L : xL) (st : List Value) (S : FT), nx cod_X6_tryOrders cut_X6_tryOrders K (n + 1) 75 L st S = (O_aload 0 1) (nx cod_X6_tryOrders cut_X6_tryOrders K n) 75 L st S) ∧
  (∀ (K : Kt FT) (n : Nat) (L : xL) (st : List Value) (S : FT), nx cod_X6_tryOrders cut_X6_tryOrders K (n + 1) 76 L st S = (O_getf fpW 6 4) (nx cod_X6_tryOrders cut_X6_tryOrders K n) 76 L st S) ∧
  (∀ (K : Kt FT) (n : Nat) (L : xL) (st : List Value) (S : FT), nx cod_X6_tryOrders cut_X6_tryOrders K (n + 1) 79 L st S = (O_callV 0 50 (fun S : FT => S.O) (fun S u => S.sO u) sp_X2_next) (nx cod_X6_tryOrders cut_X6_tryOrders K n) 79 L st S) ∧
  (∀ (K : Kt FT) (n : Nat) (L : xL) (st : List Value) (S : FT), nx cod_X6_tryOrders cut_X6_tryOrders K (n + 1) 82 L st S = (O_iinc 1 1) (nx cod_X6_tryOrders cut_X6_tryOrders K n) 82 L st S) ∧
  (∀ (K : Kt FT) (n : Nat) (L : xL) (st : List Value) (S : FT), nx cod_X6_tryOrders cut_X6_tryOrders K (n + 1) 85 L st S = (O_goto 20) (nx cod_X6_tryOrders cut_X6_tryOrders K n) 85 L st S) ∧
  (∀ (K : Kt FT) (n : Nat) (L : xL) (st : List Value) (S : FT), nx cod_X6_tryOrders cut_X6_tryOrders K (n + 1) 88 L st S = (O_int 0 1) (nx cod_X6_tryOrders cut_X6_tryOrders K n) 88 L st S) ∧
  (∀ (K : Kt FT) (n : Nat) (L : xL) (st : List Value) (S : FT), nx cod_X6_tryOrders cut_X6_tryOrders K (n + 1) 89 L st S = (O_iret) (nx cod_X6_tryOrders cut_X6_tryOrders K n) 89 L st S) ∧
  (∀ (K : Kt FT) (n : Nat) (L : xL) (st : List Value) (S : FT), nx cod_X6_tryOrders cut_X6_tryOrders K (n + 1) 100000 L st S = K 100000 L st S) := by
  repeat' apply And.intro
  all_goals (intros; rfl)
set_option maxRecDepth 100000 in
theorem mk_X6_tryOrders {P P' : FT} {r : Option Value}  (body : ∀ E : En, CodOk E fpW cod_X6_tryOrders → Gd E fpW 100000 [] r.toList P' → Gd E fpW 0 [some (.ref 0), none, none] [] P) : Con yX6_tryOrders cX6_tryOrders 3 (some .int) 6 fpW [.ref 0] P r P' :=
  Con.of (by decide) rfl rfl (Nat.le_of_ble_eq_true rfl) (fun E F G hr => body E (okc_X6_tryOrders F G) hr)
set_option maxRecDepth 10000 in
theorem con_X6_tryOrders (S : FT)  (hp : S.now.okk ∧ S.O.okc) : Con yX6_tryOrders cX6_tryOrders 3 (some .int) 6 fpW [.ref 0] S (some (.int (S.tried.1))) (S.aft) := by
  refine mk_X6_tryOrders (fun E C hr => ?_)
  have key : ∀ (f i : Nat) (T : ST) (O : OT) (q : Option Value), i + f = 60 → T.okk → O.okc → trys f T O = S.tried → Gd E fpW 20 [some (.ref 0), some (.int (nI i)), q] [] ((S.sTrial T).sO O) := by
    intro f
    induction f with
    | zero =>
      intro i T O q hi h1 h2 e
      have e1 : i = 60 := by omega
      subst e1
      have e2 : S.tried = (0, T, O) := e.symm
      unfold FT.aft at hr
      rw [e2] at hr
      (refine nx1_ok C cut_X6_tryOrders 1000 ?_; simp only [w_X6_tryOrders, ops_eq, xst_eq, call_eq, oK_eq, Option.toList_some, Option.toList_none, List.cons_append, List.nil_append, List.length_cons, List.length_nil, true_and, and_true, Nat.reduceAdd, fpW_F, fpW_A, fpW_S, fpW_P, FT_id, ST_id, FT_gs, ST_gs, PT_gs, ZT_gs, NT_gs, ET_gs, OT_gs, se_X4_copyFrom, se_X2_begin, se_X2_atEnd, se_X2_read, se_X6_tryOrder, se_X2_next, show ¬ nI 60 < 60 from by decide])
      ((repeat' (with_reducible first | apply And.intro | intro _)) <;> simp_all [FT_id, ST_id, FT_gs, ST_gs, PT_gs, ZT_gs, NT_gs, ET_gs, OT_gs])
    | succ f ih =>
      intro i T O q hi h1 h2 e
      have hx := n60 i (by omega)
      have hn := ih (i + 1) (T.order O.read.2.letter O.read.2.number).2 ((O.read.2.sPlace O.read.2.behind).sDone (O.read.2.done + 1)) (some (.int 0)) (by omega) (ST.order_okk h1 _ _) (OT.next_okc (OT.read_okc h2) _ _)
      clear ih
      have h3 := h2.1
      have h4 := h2.2
      unfold FT.aft at hr
      unfold trys at e
      by_cases c1 : O.place < O.length
      · rw [if_neg (fun z => z c1)] at e
        by_cases c2 : O.read.1 = false
        · rw [if_pos c2] at e
          rw [← e] at hr
          clear e hn
          clear h2 hi hp
          (refine nx1_ok C cut_X6_tryOrders 1000 ?_; simp only [w_X6_tryOrders, ops_eq, xst_eq, call_eq, oK_eq, Option.toList_some, Option.toList_none, List.cons_append, List.nil_append, List.length_cons, List.length_nil, true_and, and_true, Nat.reduceAdd, fpW_F, fpW_A, fpW_S, fpW_P, FT_id, ST_id, FT_gs, ST_gs, PT_gs, ZT_gs, NT_gs, ET_gs, OT_gs, se_X4_copyFrom, se_X2_begin, se_X2_atEnd, se_X2_read, se_X6_tryOrder, se_X2_next, hx, bI_eq, h1, h3, h4])
          ((repeat' (with_reducible first | apply And.intro | intro _)) <;> simp_all [bI, FT_id, ST_id, FT_gs, ST_gs, PT_gs, ZT_gs, NT_gs, ET_gs, OT_gs])
        · rw [if_neg c2] at e
          by_cases c3 : (T.order O.read.2.letter O.read.2.number).1 = 0
          · rw [if_neg (fun z => z c3)] at e
            have hn := hn e
            clear e hr
            clear h2 hi hp
            (refine nx1_ok C cut_X6_tryOrders 1000 ?_; simp only [w_X6_tryOrders, ops_eq, xst_eq, call_eq, oK_eq, Option.toList_some, Option.toList_none, List.cons_append, List.nil_append, List.length_cons, List.length_nil, true_and, and_true, Nat.reduceAdd, fpW_F, fpW_A, fpW_S, fpW_P, FT_id, ST_id, FT_gs, ST_gs, PT_gs, ZT_gs, NT_gs, ET_gs, OT_gs, se_X4_copyFrom, se_X2_begin, se_X2_atEnd, se_X2_read, se_X6_tryOrder, se_X2_next, hx, bI_eq, h1, h3, h4, FT_ee])
            ((repeat' (with_reducible first | apply And.intro | intro _)) <;> simp_all [bI, FT_ee, FT_id, ST_id, FT_gs, ST_gs, PT_gs, ZT_gs, NT_gs, ET_gs, OT_gs])
          · rw [if_pos c3] at e
            rw [← e] at hr
            clear e hn
            clear h2 hi hp
            (refine nx1_ok C cut_X6_tryOrders 1000 ?_; simp only [w_X6_tryOrders, ops_eq, xst_eq, call_eq, oK_eq, Option.toList_some, Option.toList_none, List.cons_append, List.nil_append, List.length_cons, List.length_nil, true_and, and_true, Nat.reduceAdd, fpW_F, fpW_A, fpW_S, fpW_P, FT_id, ST_id, FT_gs, ST_gs, PT_gs, ZT_gs, NT_gs, ET_gs, OT_gs, se_X4_copyFrom, se_X2_begin, se_X2_atEnd, se_X2_read, se_X6_tryOrder, se_X2_next, hx, bI_eq, h1, h3, h4, FT_ee])
            ((repeat' (with_reducible first | apply And.intro | intro _)) <;> simp_all [bI, FT_ee, FT_id, ST_id, FT_gs, ST_gs, PT_gs, ZT_gs, NT_gs, ET_gs, OT_gs])
      · rw [if_pos c1] at e
        rw [← e] at hr
        clear e hn
        clear h2 hi hp
        (refine nx1_ok C cut_X6_tryOrders 1000 ?_; simp only [w_X6_tryOrders, ops_eq, xst_eq, call_eq, oK_eq, Option.toList_some, Option.toList_none, List.cons_append, List.nil_append, List.length_cons, List.length_nil, true_and, and_true, Nat.reduceAdd, fpW_F, fpW_A, fpW_S, fpW_P, FT_id, ST_id, FT_gs, ST_gs, PT_gs, ZT_gs, NT_gs, ET_gs, OT_gs, se_X4_copyFrom, se_X2_begin, se_X2_atEnd, se_X2_read, se_X6_tryOrder, se_X2_next, hx, bI_eq, h1, h3, h4])
        ((repeat' (with_reducible first | apply And.intro | intro _)) <;> simp_all [bI, FT_id, ST_id, FT_gs, ST_gs, PT_gs, ZT_gs, NT_gs, ET_gs, OT_gs])
  have k0 := key 60 0 S.now ((S.O.sPlace 0).sDone 0) none rfl hp.1 (OT.next_okc hp.2 0 0) rfl
  clear key hr
  obtain ⟨hb1, hb2, hb3⟩ := hp.1.2
  unfold PT.bits at hb1
  unfold ZT.bits at hb2
  have e0 : (S.sTrial S.now).sNow S.now = S.sTrial S.now := rfl
  clear hp
  (refine nx_ok C (cuts := cut_X6_tryOrders) 1000 _ _ _ _ ?_; simp only [w_X6_tryOrders, ops_eq, xst_eq, call_eq, oK_eq, Option.toList_some, Option.toList_none, List.cons_append, List.nil_append, List.length_cons, List.length_nil, true_and, and_true, Nat.reduceAdd, fpW_F, fpW_A, fpW_S, fpW_P, FT_id, ST_id, FT_gs, ST_gs, PT_gs, ZT_gs, NT_gs, ET_gs, OT_gs, se_X4_copyFrom, se_X2_begin, se_X2_atEnd, se_X2_read, se_X6_tryOrder, se_X2_next, O_callC_eq, hb1, hb2, hb3, e0])
  ((repeat' (with_reducible first | apply And.intro | intro _)) <;> simp_all [nI_0, FT_id, ST_id, FT_gs, ST_gs, PT_gs, ZT_gs, NT_gs, ET_gs, OT_gs])
def sp_X6_tryOrders : Sp FT := fun av S K => match av with
  | [.ref 0] => (S.now.okk ∧ S.O.okc) ∧ K (some (.int (S.tried.1))) (S.aft)
  | _ => False
theorem se_X6_tryOrders  (S : FT) (K : Option Value → FT → Prop) : sp_X6_tryOrders [.ref 0] S K = ((S.now.okk ∧ S.O.okc) ∧ K (some (.int (S.tried.1))) (S.aft)) := rfl
theorem spok_X6_tryOrders : SpOk yX6_tryOrders cX6_tryOrders 3 (some .int) 6 fpW sp_X6_tryOrders := by
  intro av S K h
  unfold sp_X6_tryOrders at h
  split at h
  · exact ⟨some (.int (S.tried.1)), S.aft, trivial, con_X6_tryOrders S  h.1, h.2⟩
  · exact h.elim
theorem flX6_251 : fldOk RX6 251 2 2 = true := by decide +kernel
def cod_X6_fault : List (Nat × Op FT) := [(0, O_iload 1 1), (1, O_int 0 1), (2, O_int 1 1), (3, O_callS 3 sp_X6_within), (6, O_if_ne 12), (9, O_int (-1000001) 2), (11, O_iret), (12, O_aload 0 1), (13, O_callV 0 0 (fun S => S) (fun _ S' => S') sp_X6_tryOrders), (16, O_istore 2 1), (17, O_iload 2 1), (18, O_if_ne 24), (21, O_int (-1000004) 2), (23, O_iret), (24, O_iload 1 1), (25, O_if_ne 38), (28, O_aload 0 1), (29, O_getf fpW 6 4), (32, O_getf fpW 2 2), (35, O_goto 39), (38, O_iload 2 1), (39, O_iret)]
abbrev cut_X6_fault : List Nat := []
set_option maxRecDepth 100000 in
theorem okc_X6_fault {E : En} (F : Fx E RX6 cX6_fault 3 7) (G : Fr E (some .int)) : CodOk E fpW cod_X6_fault := by
  unfold CodOk cod_X6_fault
  refine List.forall_mem_cons.mpr ⟨ok_iload_n F dX6_fault_0 rfl (by decide), ?_⟩
  refine List.forall_mem_cons.mpr ⟨ok_iconst F dX6_fault_1 (by decide) (by decide), ?_⟩
  refine List.forall_mem_cons.mpr ⟨ok_iconst F dX6_fault_2 (by decide) (by decide), ?_⟩
  refine List.forall_mem_cons.mpr ⟨ok_callS F spok_X6_within (by decide +kernel) rfl (by decide) dX6_fault_3 (by decide), ?_⟩
  refine List.forall_mem_cons.mpr ⟨ok_if_ne F dX6_fault_6 (by decide) (by decide) (by decide), ?_⟩
  refine List.forall_mem_cons.mpr ⟨ok_ldc F (ix := 41) (wsHas_mem (l := [Jvm.Cond.constant RX6 41 (-1000001)]) (by decide +kernel) (by simp)) dX6_fault_9 (by decide), ?_⟩
  refine List.forall_mem_cons.mpr ⟨ok_iret F G dX6_fault_11 (by decide), ?_⟩
  refine List.forall_mem_cons.mpr ⟨ok_aload_n F dX6_fault_12 rfl (by decide), ?_⟩
  refine List.forall_mem_cons.mpr ⟨ok_callV F spok_X6_tryOrders (ln_id fpW) rcv_fpW (by decide +kernel) (by decide) dX6_fault_13 (by decide), ?_⟩
  refine List.forall_mem_cons.mpr ⟨ok_istore_n F dX6_fault_16 rfl (by decide) (by decide), ?_⟩
  refine List.forall_mem_cons.mpr ⟨ok_iload_n F dX6_fault_17 rfl (by decide), ?_⟩
  refine List.forall_mem_cons.mpr ⟨ok_if_ne F dX6_fault_18 (by decide) (by decide) (by decide), ?_⟩
  refine List.forall_mem_cons.mpr ⟨ok_ldc F (ix := 110) (wsHas_mem (l := [Jvm.Cond.constant RX6 110 (-1000004)]) (by decide +kernel) (by simp)) dX6_fault_21 (by decide), ?_⟩
  refine List.forall_mem_cons.mpr ⟨ok_iret F G dX6_fault_23 (by decide), ?_⟩
  refine List.forall_mem_cons.mpr ⟨ok_iload_n F dX6_fault_24 rfl (by decide), ?_⟩
  refine List.forall_mem_cons.mpr ⟨ok_if_ne F dX6_fault_25 (by decide) (by decide) (by decide), ?_⟩
  refine List.forall_mem_cons.mpr ⟨ok_aload_n F dX6_fault_28 rfl (by decide), ?_⟩
  refine List.forall_mem_cons.mpr ⟨ok_getf F flX6_26 dX6_fault_29 (by decide), ?_⟩
  refine List.forall_mem_cons.mpr ⟨ok_getf F flX6_251 dX6_fault_32 (by decide), ?_⟩
  refine List.forall_mem_cons.mpr ⟨ok_goto F dX6_fault_35 (by decide) (by decide) (by decide), ?_⟩
  refine List.forall_mem_cons.mpr ⟨ok_iload_n F dX6_fault_38 rfl (by decide), ?_⟩
  refine List.forall_mem_cons.mpr ⟨ok_iret F G dX6_fault_39 (by decide), ?_⟩
  exact fun _ h => absurd h List.not_mem_nil
set_option maxRecDepth 100000 in
theorem w_X6_fault : (∀ (K : Kt FT) (n : Nat) (L : xL) (st : List Value) (S : FT), nx cod_X6_fault cut_X6_fault K (n + 1) 0 L st S = (O_iload 1 1) (nx cod_X6_fault cut_X6_fault K n) 0 L st S) ∧
  (∀ (K : Kt FT) (n : Nat) (L : xL) (st : List Value) (S : FT), nx cod_X6_fault cut_X6_fault K (n + 1) 1 L st S = (O_int 0 1) (nx cod_X6_fault cut_X6_fault K n) 1 L st S) ∧
  (∀ (K : Kt FT) (n : Nat) (L : xL) (st : List Value) (S : FT), nx cod_X6_fault cut_X6_fault K (n + 1) 2 L st S = (O_int 1 1) (nx cod_X6_fault cut_X6_fault K n) 2 L st S) ∧
  (∀ (K : Kt FT) (n : Nat) (L : xL) (st : List Value) (S : FT), nx cod_X6_fault cut_X6_fault K (n + 1) 3 L st S = (O_callS 3 sp_X6_within) (nx cod_X6_fault cut_X6_fault K n) 3 L st S) ∧
  (∀ (K : Kt FT) (n : Nat) (L : xL) (st : List Value) (S : FT), nx cod_X6_fault cut_X6_fault K (n + 1) 6 L st S = (O_if_ne 12) (nx cod_X6_fault cut_X6_fault K n) 6 L st S) ∧
  (∀ (K : Kt FT) (n : Nat) (L : xL) (st : List Value) (S : FT), nx cod_X6_fault cut_X6_fault K (n + 1) 9 L st S = (O_int (-1000001) 2) (nx cod_X6_fault cut_X6_fault K n) 9 L st S) ∧
  (∀ (K : Kt FT) (n : Nat) (L : xL) (st : List Value) (S : FT), nx cod_X6_fault cut_X6_fault K (n + 1) 11 L st S = (O_iret) (nx cod_X6_fault cut_X6_fault K n) 11 L st S) ∧
  (∀ (K : Kt FT) (n : Nat) (L : xL) (st : List Value) (S : FT), nx cod_X6_fault cut_X6_fault K (n + 1) 12 L st S = (O_aload 0 1) (nx cod_X6_fault cut_X6_fault K n) 12 L st S) ∧
  (∀ (K : Kt FT) (n : Nat) (L : xL) (st : List Value) (S : FT), nx cod_X6_fault cut_X6_fault K (n + 1) 13 L st S = (O_callV 0 0 (fun S => S) (fun _ S' => S') sp_X6_tryOrders) (nx cod_X6_fault cut_X6_fault K n) 13 L st S) ∧
  (∀ (K : Kt FT) (n : Nat) (L : xL) (st : List Value) (S : FT), nx cod_X6_fault cut_X6_fault K (n + 1) 16 L st S = (O_istore 2 1) (nx cod_X6_fault cut_X6_fault K n) 16 L st S) ∧
  (∀ (K : Kt FT) (n : Nat) (L : xL) (st : List Value) (S : FT), nx cod_X6_fault cut_X6_fault K (n + 1) 17 L st S = (O_iload 2 1) (nx cod_X6_fault cut_X6_fault K n) 17 L st S) ∧
  (∀ (K : Kt FT) (n : Nat) (L : xL) (st : List Value) (S : FT), nx cod_X6_fault cut_X6_fault K (n + 1) 18 L st S = (O_if_ne 24) (nx cod_X6_fault cut_X6_fault K n) 18 L st S) ∧
  (∀ (K : Kt FT) (n : Nat) (L : xL) (st : List Value) (S : FT), nx cod_X6_fault cut_X6_fault K (n + 1) 21 L st S = (O_int (-1000004) 2) (nx cod_X6_fault cut_X6_fault K n) 21 L st S) ∧
  (∀ (K : Kt FT) (n : Nat) (L : xL) (st : List Value) (S : FT), nx cod_X6_fault cut_X6_fault K (n + 1) 23 L st S = (O_iret) (nx cod_X6_fault cut_X6_fault K n) 23 L st S) ∧
  (∀ (K : Kt FT) (n : Nat) (L : xL) (st : List Value) (S : FT), nx cod_X6_fault cut_X6_fault K (n + 1) 24 L st S = (O_iload 1 1) (nx cod_X6_fault cut_X6_fault K n) 24 L st S) ∧
  (∀ (K : Kt FT) (n : Nat) (L : xL) (st : List Value) (S : FT), nx cod_X6_fault cut_X6_fault K (n + 1) 25 L st S = (O_if_ne 38) (nx cod_X6_fault cut_X6_fault K n) 25 L st S) ∧
  (∀ (K : Kt FT) (n : Nat) (L : xL) (st : List Value) (S : FT), nx cod_X6_fault cut_X6_fault K (n + 1) 28 L st S = (O_aload 0 1) (nx cod_X6_fault cut_X6_fault K n) 28 L st S) ∧
  (∀ (K : Kt FT) (n : Nat) (L : xL) (st : List Value) (S : FT), nx cod_X6_fault cut_X6_fault K (n + 1) 29 L st S = (O_getf fpW 6 4) (nx cod_X6_fault cut_X6_fault K n) 29 L st S) ∧
  (∀ (K : Kt FT) (n : Nat) (L : xL) (st : List Value) (S : FT), nx cod_X6_fault cut_X6_fault K (n + 1) 32 L st S = (O_getf fpW 2 2) (nx cod_X6_fault cut_X6_fault K n) 32 L st S) ∧
  (∀ (K : Kt FT) (n : Nat) (L : xL) (st : List Value) (S : FT), nx cod_X6_fault cut_X6_fault K (n + 1) 35 L st S = (O_goto 39) (nx cod_X6_fault cut_X6_fault K n) 35 L st S) ∧
  (∀ (K : Kt FT) (n : Nat) (L : xL) (st : List Value) (S : FT), nx cod_X6_fault cut_X6_fault K (n + 1) 38 L st S = (O_iload 2 1) (nx cod_X6_fault cut_X6_fault K n) 38 L st S) ∧
  (∀ (K : Kt FT) (n : Nat) (L : xL) (st : List Value) (S : FT), nx cod_X6_fault cut_X6_fault K (n + 1) 39 L st S = (O_iret) (nx cod_X6_fault cut_X6_fault K n) 39 L st S) ∧
  (∀ (K : Kt FT) (n : Nat) (L : xL) (st : List Value) (S : FT), nx cod_X6_fault cut_X6_fault K (n + 1) 100000 L st S = K 100000 L st S) := by
  repeat' apply And.intro
  all_goals (intros; rfl)
set_option maxRecDepth 100000 in
theorem mk_X6_fault {P P' : FT} {r : Option Value} {p0 : Int32} (body : ∀ E : En, CodOk E fpW cod_X6_fault → Gd E fpW 100000 [] r.toList P' → Gd E fpW 0 [some (.ref 0), some (.int p0), none] [] P) : Con yX6_fault cX6_fault 3 (some .int) 7 fpW [.ref 0, .int p0] P r P' :=
  Con.of (by decide) rfl rfl (Nat.le_of_ble_eq_true rfl) (fun E F G hr => body E (okc_X6_fault F G) hr)
set_option maxRecDepth 10000 in
theorem con_X6_fault (S : FT) (w : Int32) (hp : S.good) : Con yX6_fault cX6_fault 3 (some .int) 7 fpW [.ref 0, .int w] S (some (.int (if inR w 0 1 = false then -1000001 else if S.tried.1 = 0 then -1000004 else if w = 0 then S.tried.2.2.place else S.tried.1))) (if inR w 0 1 = true then S.aft else S) := by
  refine mk_X6_fault (fun E C hr => ?_)
  have h1 := hp.2.1
  have h2 : S.O.okc := hp.2.2.2
  clear hp
  have e1 : S.aft.O = S.tried.2.2 := rfl
  (refine nx_ok C (cuts := cut_X6_fault) 1000 _ _ _ _ ?_; simp only [w_X6_fault, ops_eq, xst_eq, call_eq, oK_eq, Option.toList_some, Option.toList_none, List.cons_append, List.nil_append, List.length_cons, List.length_nil, true_and, and_true, Nat.reduceAdd, fpW_F, fpW_A, fpW_S, fpW_P, FT_id, ST_id, FT_gs, ST_gs, PT_gs, ZT_gs, NT_gs, ET_gs, OT_gs, se_X6_within, se_X6_tryOrders, bI_eq, h1, h2, e1])
  ((repeat' (with_reducible first | apply And.intro | intro _)) <;> simp_all [FT_id, ST_id, FT_gs, ST_gs, PT_gs, ZT_gs, NT_gs, ET_gs, OT_gs])
def sp_X6_fault : Sp FT := fun av S K => match av with
  | [.ref 0, .int w] => (S.good) ∧ K (some (.int (if inR w 0 1 = false then -1000001 else if S.tried.1 = 0 then -1000004 else if w = 0 then S.tried.2.2.place else S.tried.1))) (if inR w 0 1 = true then S.aft else S)
  | _ => False
theorem se_X6_fault (w : Int32) (S : FT) (K : Option Value → FT → Prop) : sp_X6_fault [.ref 0, .int w] S K = ((S.good) ∧ K (some (.int (if inR w 0 1 = false then -1000001 else if S.tried.1 = 0 then -1000004 else if w = 0 then S.tried.2.2.place else S.tried.1))) (if inR w 0 1 = true then S.aft else S)) := rfl
theorem spok_X6_fault : SpOk yX6_fault cX6_fault 3 (some .int) 7 fpW sp_X6_fault := by
  intro av S K h
  unfold sp_X6_fault at h
  split at h
  · rename_i w; exact ⟨some (.int (if inR w 0 1 = false then -1000001 else if S.tried.1 = 0 then -1000004 else if w = 0 then S.tried.2.2.place else S.tried.1)), if inR w 0 1 = true then S.aft else S, trivial, con_X6_fault S w h.1, h.2⟩
  · exact h.elim
theorem flX6_254 : fldOk RX6 254 2 4 = true := by decide +kernel
def cod_X6_play : List (Nat × Op FT) := [(0, O_aload 0 1), (1, O_callV 0 0 (fun S => S) (fun _ S' => S') sp_X6_tryOrders), (4, O_if_eq 10), (7, O_int (-1000002) 2), (9, O_iret), (10, O_aload 0 1), (11, O_callV 0 0 (fun S => S) (fun _ S' => S') sp_X6_remember), (14, O_aload 0 1), (15, O_getf fpW 6 0), (18, O_aload 0 1), (19, O_getf fpW 6 1), (22, O_callC 1 25 24 (fun S : FT => (S.now, S.trial)) (fun S u => (S.sNow u.1).sTrial u.2) sp_X4_copyFrom), (25, O_aload 0 1), (26, O_getf fpW 6 4), (29, O_getf fpW 2 4), (32, O_iret)]
abbrev cut_X6_play : List Nat := []
set_option maxRecDepth 100000 in
theorem okc_X6_play {E : En} (F : Fx E RX6 cX6_play 1 7) (G : Fr E (some .int)) : CodOk E fpW cod_X6_play := by
  unfold CodOk cod_X6_play
  refine List.forall_mem_cons.mpr ⟨ok_aload_n F dX6_play_0 rfl (by decide), ?_⟩
  refine List.forall_mem_cons.mpr ⟨ok_callV F spok_X6_tryOrders (ln_id fpW) rcv_fpW (by decide +kernel) (by decide) dX6_play_1 (by decide), ?_⟩
  refine List.forall_mem_cons.mpr ⟨ok_if_eq F dX6_play_4 (by decide) (by decide) (by decide), ?_⟩
  refine List.forall_mem_cons.mpr ⟨ok_ldc F (ix := 71) (wsHas_mem (l := [Jvm.Cond.constant RX6 71 (-1000002)]) (by decide +kernel) (by simp)) dX6_play_7 (by decide), ?_⟩
  refine List.forall_mem_cons.mpr ⟨ok_iret F G dX6_play_9 (by decide), ?_⟩
  refine List.forall_mem_cons.mpr ⟨ok_aload_n F dX6_play_10 rfl (by decide), ?_⟩
  refine List.forall_mem_cons.mpr ⟨ok_callV F spok_X6_remember (ln_id fpW) rcv_fpW (by decide +kernel) (by decide) dX6_play_11 (by decide), ?_⟩
  refine List.forall_mem_cons.mpr ⟨ok_aload_n F dX6_play_14 rfl (by decide), ?_⟩
  refine List.forall_mem_cons.mpr ⟨ok_getf F flX6_10 dX6_play_15 (by decide), ?_⟩
  refine List.forall_mem_cons.mpr ⟨ok_aload_n F dX6_play_18 rfl (by decide), ?_⟩
  refine List.forall_mem_cons.mpr ⟨ok_getf F flX6_16 dX6_play_19 (by decide), ?_⟩
  refine List.forall_mem_cons.mpr ⟨ok_callC F (by decide) spok_X4_copyFrom ln2_fp_now_trial rcv_stW (by decide +kernel) (by decide) dX6_play_22 (by decide), ?_⟩
  refine List.forall_mem_cons.mpr ⟨ok_aload_n F dX6_play_25 rfl (by decide), ?_⟩
  refine List.forall_mem_cons.mpr ⟨ok_getf F flX6_26 dX6_play_26 (by decide), ?_⟩
  refine List.forall_mem_cons.mpr ⟨ok_getf F flX6_254 dX6_play_29 (by decide), ?_⟩
  refine List.forall_mem_cons.mpr ⟨ok_iret F G dX6_play_32 (by decide), ?_⟩
  exact fun _ h => absurd h List.not_mem_nil
set_option maxRecDepth 100000 in
theorem w_X6_play : (∀ (K : Kt FT) (n : Nat) (L : xL) (st : List Value) (S : FT), nx cod_X6_play cut_X6_play K (n + 1) 0 L st S = (O_aload 0 1) (nx cod_X6_play cut_X6_play K n) 0 L st S) ∧
  (∀ (K : Kt FT) (n : Nat) (L : xL) (st : List Value) (S : FT), nx cod_X6_play cut_X6_play K (n + 1) 1 L st S = (O_callV 0 0 (fun S => S) (fun _ S' => S') sp_X6_tryOrders) (nx cod_X6_play cut_X6_play K n) 1 L st S) ∧
  (∀ (K : Kt FT) (n : Nat) (L : xL) (st : List Value) (S : FT), nx cod_X6_play cut_X6_play K (n + 1) 4 L st S = (O_if_eq 10) (nx cod_X6_play cut_X6_play K n) 4 L st S) ∧
  (∀ (K : Kt FT) (n : Nat) (L : xL) (st : List Value) (S : FT), nx cod_X6_play cut_X6_play K (n + 1) 7 L st S = (O_int (-1000002) 2) (nx cod_X6_play cut_X6_play K n) 7 L st S) ∧
  (∀ (K : Kt FT) (n : Nat) (L : xL) (st : List Value) (S : FT), nx cod_X6_play cut_X6_play K (n + 1) 9 L st S = (O_iret) (nx cod_X6_play cut_X6_play K n) 9 L st S) ∧
  (∀ (K : Kt FT) (n : Nat) (L : xL) (st : List Value) (S : FT), nx cod_X6_play cut_X6_play K (n + 1) 10 L st S = (O_aload 0 1) (nx cod_X6_play cut_X6_play K n) 10 L st S) ∧
  (∀ (K : Kt FT) (n : Nat) (L : xL) (st : List Value) (S : FT), nx cod_X6_play cut_X6_play K (n + 1) 11 L st S = (O_callV 0 0 (fun S => S) (fun _ S' => S') sp_X6_remember) (nx cod_X6_play cut_X6_play K n) 11 L st S) ∧
  (∀ (K : Kt FT) (n : Nat) (L : xL) (st : List Value) (S : FT), nx cod_X6_play cut_X6_play K (n + 1) 14 L st S = (O_aload 0 1) (nx cod_X6_play cut_X6_play K n) 14 L st S) ∧
  (∀ (K : Kt FT) (n : Nat) (L : xL) (st : List Value) (S : FT), nx cod_X6_play cut_X6_play K (n + 1) 15 L st S = (O_getf fpW 6 0) (nx cod_X6_play cut_X6_play K n) 15 L st S) ∧
  (∀ (K : Kt FT) (n : Nat) (L : xL) (st : List Value) (S : FT), nx cod_X6_play cut_X6_play K (n + 1) 18 L st S = (O_aload 0 1) (nx cod_X6_play cut_X6_play K n) 18 L st S) ∧
  (∀ (K : Kt FT) (n : Nat) (L : xL) (st : List Value) (S : FT), nx cod_X6_play cut_X6_play K (n + 1) 19 L st S = (O_getf fpW 6 1) (nx cod_X6_play cut_X6_play K n) 19 L st S) ∧
  (∀ (K : Kt FT) (n : Nat) (L : xL) (st : List Value) (S : FT), nx cod_X6_play cut_X6_play K (n + 1) 22 L st S = (O_callC 1 25 24 (fun S : FT => (S.now, S.trial)) (fun S u => (S.sNow u.1).sTrial u.2) sp_X4_copyFrom) (nx cod_X6_play cut_X6_play K n) 22 L st S) ∧
  (∀ (K : Kt FT) (n : Nat) (L : xL) (st : List Value) (S : FT), nx cod_X6_play cut_X6_play K (n + 1) 25 L st S = (O_aload 0 1) (nx cod_X6_play cut_X6_play K n) 25 L st S) ∧
  (∀ (K : Kt FT) (n : Nat) (L : xL) (st : List Value) (S : FT), nx cod_X6_play cut_X6_play K (n + 1) 26 L st S = (O_getf fpW 6 4) (nx cod_X6_play cut_X6_play K n) 26 L st S) ∧
  (∀ (K : Kt FT) (n : Nat) (L : xL) (st : List Value) (S : FT), nx cod_X6_play cut_X6_play K (n + 1) 29 L st S = (O_getf fpW 2 4) (nx cod_X6_play cut_X6_play K n) 29 L st S) ∧
  (∀ (K : Kt FT) (n : Nat) (L : xL) (st : List Value) (S : FT), nx cod_X6_play cut_X6_play K (n + 1) 32 L st S = (O_iret) (nx cod_X6_play cut_X6_play K n) 32 L st S) ∧
  (∀ (K : Kt FT) (n : Nat) (L : xL) (st : List Value) (S : FT), nx cod_X6_play cut_X6_play K (n + 1) 100000 L st S = K 100000 L st S) := by
  repeat' apply And.intro
  all_goals (intros; rfl)
set_option maxRecDepth 100000 in
theorem mk_X6_play {P P' : FT} {r : Option Value}  (body : ∀ E : En, CodOk E fpW cod_X6_play → Gd E fpW 100000 [] r.toList P' → Gd E fpW 0 [some (.ref 0)] [] P) : Con yX6_play cX6_play 1 (some .int) 7 fpW [.ref 0] P r P' :=
  Con.of (by decide) rfl rfl (Nat.le_of_ble_eq_true rfl) (fun E F G hr => body E (okc_X6_play F G) hr)
set_option maxRecDepth 10000 in
theorem con_X6_play (S : FT)  (hp : S.good) : Con yX6_play cX6_play 1 (some .int) 7 fpW [.ref 0] S (some (.int (if S.tried.1 = 0 then S.tried.2.2.done else -1000002))) (if S.tried.1 = 0 then S.aft.remember.sNow S.tried.2.1 else S.aft) := by
  refine mk_X6_play (fun E C hr => ?_)
  have h1 := hp.2.1
  have h2 : S.O.okc := hp.2.2.2
  have h3 : S.aft.histOk := hp.1
  have h4 : S.aft.now.bits := h1.2
  obtain ⟨hb1, hb2, hb3⟩ := (trys_ok 60 _ _ h1 (OT.next_okc h2 0 0)).1.2
  unfold PT.bits at hb1
  unfold ZT.bits at hb2
  have e1 : S.aft.trial = S.tried.2.1 := rfl
  have e2 : S.aft.O = S.tried.2.2 := rfl
  have e3 : (S.aft.remember.sNow S.tried.2.1).sTrial S.tried.2.1 = S.aft.remember.sNow S.tried.2.1 := by
    have h := FT_id.2.1 (S.aft.remember.sNow S.tried.2.1)
    rw [show (S.aft.remember.sNow S.tried.2.1).trial = S.tried.2.1 from (rmb_eq.2.1 S.aft)] at h
    exact h
  have e4 : trys 60 S.now ((S.O.sPlace 0).sDone 0) = S.tried := rfl
  rw [e4] at hb1 hb2 hb3
  clear hp
  (refine nx_ok C (cuts := cut_X6_play) 1000 _ _ _ _ ?_; simp only [w_X6_play, ops_eq, xst_eq, call_eq, oK_eq, Option.toList_some, Option.toList_none, List.cons_append, List.nil_append, List.length_cons, List.length_nil, true_and, and_true, Nat.reduceAdd, fpW_F, fpW_A, fpW_S, fpW_P, FT_id, ST_id, FT_gs, ST_gs, PT_gs, ZT_gs, NT_gs, ET_gs, OT_gs, se_X6_tryOrders, se_X6_remember, se_X4_copyFrom, bI_eq, rmb_eq, h1, h2, h3, h4, e1, e2, e3, O_callC_eq, hb1, hb2, hb3])
  ((repeat' (with_reducible first | apply And.intro | intro _)) <;> simp_all [FT_id, ST_id, FT_gs, ST_gs, PT_gs, ZT_gs, NT_gs, ET_gs, OT_gs])
def sp_X6_play : Sp FT := fun av S K => match av with
  | [.ref 0] => (S.good) ∧ K (some (.int (if S.tried.1 = 0 then S.tried.2.2.done else -1000002))) (if S.tried.1 = 0 then S.aft.remember.sNow S.tried.2.1 else S.aft)
  | _ => False
theorem se_X6_play  (S : FT) (K : Option Value → FT → Prop) : sp_X6_play [.ref 0] S K = ((S.good) ∧ K (some (.int (if S.tried.1 = 0 then S.tried.2.2.done else -1000002))) (if S.tried.1 = 0 then S.aft.remember.sNow S.tried.2.1 else S.aft)) := rfl
theorem spok_X6_play : SpOk yX6_play cX6_play 1 (some .int) 7 fpW sp_X6_play := by
  intro av S K h
  unfold sp_X6_play at h
  split at h
  · exact ⟨some (.int (if S.tried.1 = 0 then S.tried.2.2.done else -1000002)), if S.tried.1 = 0 then S.aft.remember.sNow S.tried.2.1 else S.aft, trivial, con_X6_play S  h.1, h.2⟩
  · exact h.elim
