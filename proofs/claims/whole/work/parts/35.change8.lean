/-! ===== the reference: the calls that change, continued ===== -/
theorem op_facts {S : ZT} (h : S.bits) {i : Nat} (hi : i < 8) : (S.isOpen i = 0 ∧ S.isOp i = false) ∨ (S.isOpen i = 1 ∧ S.isOp i = true) := by
  unfold ZT.isOp
  rcases h i hi with q | q
  · left; rw [q]; exact ⟨rfl, rfl⟩
  · right; rw [q]; exact ⟨rfl, rfl⟩
def okOpen7 (S : ST) (z is : Int32) : Bool := S.Z.has z && inR is 0 1
def cod_X7_open : List (Nat × Op QT) := [(0, O_aload 0 1), (1, O_iload 1 1), (2, O_callV 1 0 (fun S => S) (fun _ S' => S') sp_X7_isZone), (5, O_if_eq 18), (8, O_iload 2 1), (9, O_i2l), (10, O_long 0 1), (11, O_long 1 1), (12, O_callS 3 sp_X7_in), (15, O_if_ne 21), (18, O_int (-1000001) 2), (20, O_iret), (21, O_aload 0 1), (22, O_iload 1 1), (23, O_callV 1 0 (fun S => S) (fun _ S' => S') sp_X7_isOpen), (26, O_iload 2 1), (27, O_int 1 1), (28, O_icmp_ne 35), (31, O_int 1 1), (32, O_goto 36), (35, O_int 0 1), (36, O_icmp_ne 42), (39, O_int (-1000002) 2), (41, O_iret), (42, O_aload 0 1), (43, O_callV 0 0 (fun S => S) (fun _ S' => S') spa_X7_save), (46, O_aload 0 1), (47, O_getf aW 7 0), (50, O_int 87 2), (52, O_int 2 1), (53, O_iload 1 1), (54, O_imul), (55, O_iadd), (56, O_int 1 1), (57, O_iadd), (58, O_iload 2 1), (59, O_asti aW aW_wi), (60, O_aload 0 1), (61, O_callV 0 0 (fun S => S) (fun _ S' => S') sp_X7_openZones), (64, O_iret)]
abbrev cut_X7_open : List Nat := []
set_option maxRecDepth 100000 in
theorem okc_X7_open {E : En} (F : Fx E RX7 cX7_open 3 2) (G : Fr E (some .int)) : CodOk E aW cod_X7_open := by
  unfold CodOk cod_X7_open
  refine List.forall_mem_cons.mpr ⟨ok_aload_n F dX7_open_0 rfl (by decide), ?_⟩
  refine List.forall_mem_cons.mpr ⟨ok_iload_n F dX7_open_1 rfl (by decide), ?_⟩
  refine List.forall_mem_cons.mpr ⟨ok_callV F spok_X7_isZone (ln_id aW) rcv_aW (by decide +kernel) (by decide) dX7_open_2 (by decide), ?_⟩
  refine List.forall_mem_cons.mpr ⟨ok_if_eq F dX7_open_5 (by decide) (by decide) (by decide), ?_⟩
  refine List.forall_mem_cons.mpr ⟨ok_iload_n F dX7_open_8 rfl (by decide), ?_⟩
  refine List.forall_mem_cons.mpr ⟨ok_i2l F dX7_open_9 (by decide), ?_⟩
  refine List.forall_mem_cons.mpr ⟨ok_lconst F dX7_open_10 (by decide) (by decide), ?_⟩
  refine List.forall_mem_cons.mpr ⟨ok_lconst F dX7_open_11 (by decide) (by decide), ?_⟩
  refine List.forall_mem_cons.mpr ⟨ok_callS F spok_X7_in (by decide +kernel) rfl (by decide) dX7_open_12 (by decide), ?_⟩
  refine List.forall_mem_cons.mpr ⟨ok_if_ne F dX7_open_15 (by decide) (by decide) (by decide), ?_⟩
  refine List.forall_mem_cons.mpr ⟨ok_ldc F (ix := 62) (wsHas_mem (l := [Jvm.Cond.constant RX7 62 (-1000001)]) (by decide +kernel) (by simp)) dX7_open_18 (by decide), ?_⟩
  refine List.forall_mem_cons.mpr ⟨ok_iret F G dX7_open_20 (by decide), ?_⟩
  refine List.forall_mem_cons.mpr ⟨ok_aload_n F dX7_open_21 rfl (by decide), ?_⟩
  refine List.forall_mem_cons.mpr ⟨ok_iload_n F dX7_open_22 rfl (by decide), ?_⟩
  refine List.forall_mem_cons.mpr ⟨ok_callV F spok_X7_isOpen (ln_id aW) rcv_aW (by decide +kernel) (by decide) dX7_open_23 (by decide), ?_⟩
  refine List.forall_mem_cons.mpr ⟨ok_iload_n F dX7_open_26 rfl (by decide), ?_⟩
  refine List.forall_mem_cons.mpr ⟨ok_iconst F dX7_open_27 (by decide) (by decide), ?_⟩
  refine List.forall_mem_cons.mpr ⟨ok_icmp_ne F dX7_open_28 (by decide) (by decide) (by decide), ?_⟩
  refine List.forall_mem_cons.mpr ⟨ok_iconst F dX7_open_31 (by decide) (by decide), ?_⟩
  refine List.forall_mem_cons.mpr ⟨ok_goto F dX7_open_32 (by decide) (by decide) (by decide), ?_⟩
  refine List.forall_mem_cons.mpr ⟨ok_iconst F dX7_open_35 (by decide) (by decide), ?_⟩
  refine List.forall_mem_cons.mpr ⟨ok_icmp_ne F dX7_open_36 (by decide) (by decide) (by decide), ?_⟩
  refine List.forall_mem_cons.mpr ⟨ok_ldc F (ix := 123) (wsHas_mem (l := [Jvm.Cond.constant RX7 123 (-1000002)]) (by decide +kernel) (by simp)) dX7_open_39 (by decide), ?_⟩
  refine List.forall_mem_cons.mpr ⟨ok_iret F G dX7_open_41 (by decide), ?_⟩
  refine List.forall_mem_cons.mpr ⟨ok_aload_n F dX7_open_42 rfl (by decide), ?_⟩
  refine List.forall_mem_cons.mpr ⟨ok_callV F spoka_X7_save (ln_id aW) rcv_aW (by decide +kernel) (by decide) dX7_open_43 (by decide), ?_⟩
  refine List.forall_mem_cons.mpr ⟨ok_aload_n F dX7_open_46 rfl (by decide), ?_⟩
  refine List.forall_mem_cons.mpr ⟨ok_getf F flX7_7 dX7_open_47 (by decide), ?_⟩
  refine List.forall_mem_cons.mpr ⟨ok_bipush F dX7_open_50 (by decide) (by decide), ?_⟩
  refine List.forall_mem_cons.mpr ⟨ok_iconst F dX7_open_52 (by decide) (by decide), ?_⟩
  refine List.forall_mem_cons.mpr ⟨ok_iload_n F dX7_open_53 rfl (by decide), ?_⟩
  refine List.forall_mem_cons.mpr ⟨ok_imul F dX7_open_54 (by decide), ?_⟩
  refine List.forall_mem_cons.mpr ⟨ok_iadd F dX7_open_55 (by decide), ?_⟩
  refine List.forall_mem_cons.mpr ⟨ok_iconst F dX7_open_56 (by decide) (by decide), ?_⟩
  refine List.forall_mem_cons.mpr ⟨ok_iadd F dX7_open_57 (by decide), ?_⟩
  refine List.forall_mem_cons.mpr ⟨ok_iload_n F dX7_open_58 rfl (by decide), ?_⟩
  refine List.forall_mem_cons.mpr ⟨ok_asti F aW_wok dX7_open_59 (by decide), ?_⟩
  refine List.forall_mem_cons.mpr ⟨ok_aload_n F dX7_open_60 rfl (by decide), ?_⟩
  refine List.forall_mem_cons.mpr ⟨ok_callV F spok_X7_openZones (ln_id aW) rcv_aW (by decide +kernel) (by decide) dX7_open_61 (by decide), ?_⟩
  refine List.forall_mem_cons.mpr ⟨ok_iret F G dX7_open_64 (by decide), ?_⟩
  exact fun _ h => absurd h List.not_mem_nil
set_option maxRecDepth 100000 in
theorem w_X7_open : (∀ (K : Kt QT) (n : Nat) (L : xL) (st : List Value) (S : QT), nx cod_X7_open cut_X7_open K (n + 1) 0 L st S = (O_aload 0 1) (nx cod_X7_open cut_X7_open K n) 0 L st S) ∧
  (∀ (K : Kt QT) (n : Nat) (L : xL) (st : List Value) (S : QT), nx cod_X7_open cut_X7_open K (n + 1) 1 L st S = (O_iload 1 1) (nx cod_X7_open cut_X7_open K n) 1 L st S) ∧
  (∀ (K : Kt QT) (n : Nat) (L : xL) (st : List Value) (S : QT), nx cod_X7_open cut_X7_open K (n + 1) 2 L st S = (O_callV 1 0 (fun S => S) (fun _ S' => S') sp_X7_isZone) (nx cod_X7_open cut_X7_open K n) 2 L st S) ∧
  (∀ (K : Kt QT) (n : Nat) (L : xL) (st : List Value) (S : QT), nx cod_X7_open cut_X7_open K (n + 1) 5 L st S = (O_if_eq 18) (nx cod_X7_open cut_X7_open K n) 5 L st S) ∧
  (∀ (K : Kt QT) (n : Nat) (L : xL) (st : List Value) (S : QT), nx cod_X7_open cut_X7_open K (n + 1) 8 L st S = (O_iload 2 1) (nx cod_X7_open cut_X7_open K n) 8 L st S) ∧
  (∀ (K : Kt QT) (n : Nat) (L : xL) (st : List Value) (S : QT), nx cod_X7_open cut_X7_open K (n + 1) 9 L st S = (O_i2l) (nx cod_X7_open cut_X7_open K n) 9 L st S) ∧
  (∀ (K : Kt QT) (n : Nat) (L : xL) (st : List Value) (S : QT), nx cod_X7_open cut_X7_open K (n + 1) 10 L st S = (O_long 0 1) (nx cod_X7_open cut_X7_open K n) 10 L st S) ∧
  (∀ (K : Kt QT) (n : Nat) (L : xL) (st : List Value) (S : QT), nx cod_X7_open cut_X7_open K (n + 1) 11 L st S = (O_long 1 1) (nx cod_X7_open cut_X7_open K n) 11 L st S) ∧
  (∀ (K : Kt QT) (n : Nat) (L : xL) (st : List Value) (S : QT), nx cod_X7_open cut_X7_open K (n + 1) 12 L st S = (O_callS 3 sp_X7_in) (nx cod_X7_open cut_X7_open K n) 12 L st S) ∧
  (∀ (K : Kt QT) (n : Nat) (L : xL) (st : List Value) (S : QT), nx cod_X7_open cut_X7_open K (n + 1) 15 L st S = (O_if_ne 21) (nx cod_X7_open cut_X7_open K n) 15 L st S) ∧
  (∀ (K : Kt QT) (n : Nat) (L : xL) (st : List Value) (S : QT), nx cod_X7_open cut_X7_open K (n + 1) 18 L st S = (O_int (-1000001) 2) (nx cod_X7_open cut_X7_open K n) 18 L st S) ∧
  (∀ (K : Kt QT) (n : Nat) (L : xL) (st : List Value) (S : QT), nx cod_X7_open cut_X7_open K (n + 1) 20 L st S = (O_iret) (nx cod_X7_open cut_X7_open K n) 20 L st S) ∧
  (∀ (K : Kt QT) (n : Nat) (L : xL) (st : List Value) (S : QT), nx cod_X7_open cut_X7_open K (n + 1) 21 L st S = (O_aload 0 1) (nx cod_X7_open cut_X7_open K n) 21 L st S) ∧
  (∀ (K : Kt QT) (n : Nat) (L : xL) (st : List Value) (S : QT), nx cod_X7_open cut_X7_open K (n + 1) 22 L st S = (O_iload 1 1) (nx cod_X7_open cut_X7_open K n) 22 L st S) ∧
  (∀ (K : Kt QT) (n : Nat) (L : xL) (st : List Value) (S : QT), nx cod_X7_open cut_X7_open K (n + 1) 23 L st S = (O_callV 1 0 (fun S => S) (fun _ S' => S') sp_X7_isOpen) (nx cod_X7_open cut_X7_open K n) 23 L st S) ∧
  (∀ (K : Kt QT) (n : Nat) (L : xL) (st : List Value) (S : QT), nx cod_X7_open cut_X7_open K (n + 1) 26 L st S = (O_iload 2 1) (nx cod_X7_open cut_X7_open K n) 26 L st S) ∧
  (∀ (K : Kt QT) (n : Nat) (L : xL) (st : List Value) (S : QT), nx cod_X7_open cut_X7_open K (n + 1) 27 L st S = (O_int 1 1) (nx cod_X7_open cut_X7_open K n) 27 L st S) ∧
  (∀ (K : Kt QT) (n : Nat) (L : xL) (st : List Value) (S : QT), nx cod_X7_open cut_X7_open K (n + 1) 28 L st S = (O_icmp_ne 35) (nx cod_X7_open cut_X7_open K n) 28 L st S) ∧
  (∀ (K : Kt QT) (n : Nat) (L : xL) (st : List Value) (S : QT), nx cod_X7_open cut_X7_open K (n + 1) 31 L st S = (O_int 1 1) (nx cod_X7_open cut_X7_open K n) 31 L st S) ∧
  (∀ (K : Kt QT) (n : Nat) (L : xL) (st : List Value) (S : QT), nx cod_X7_open cut_X7_open K (n + 1) 32 L st S = (O_goto 36) (nx cod_X7_open cut_X7_open K n) 32 L st S) ∧
  (∀ (K : Kt QT) (n : Nat) (L : xL) (st : List Value) (S : QT), nx cod_X7_open cut_X7_open K (n + 1) 35 L st S = (O_int 0 1) (nx cod_X7_open cut_X7_open K n) 35 L st S) ∧
  (∀ (K : Kt QT) (n : Nat) (L : xL) (st : List Value) (S : QT), nx cod_X7_open cut_X7_open K (n + 1) 36 L st S = (O_icmp_ne 42) (nx cod_X7_open cut_X7_open K n) 36 L st S) ∧
  (∀ (K : Kt QT) (n : Nat) (L : xL) (st : List Value) (S : QT), nx cod_X7_open cut_X7_open K (n + 1) 39 L st S = (O_int (-1000002) 2) (nx cod_X7_open cut_X7_open K n) 39 L st S) ∧
  (∀ (K : Kt QT) (n : Nat) (L : xL) (st : List Value) (S : QT), nx cod_X7_open cut_X7_open K (n + 1) 41 L st S = (O_iret) (nx cod_X7_open cut_X7_open K n) 41 L st S) ∧
  (∀ (K : Kt QT) (n : Nat) (L : xL) (st : List Value) (S : QT), nx cod_X7_open cut_X7_open K (n + 1) 42 L st S = (O_aload 0 1) (nx cod_X7_open cut_X7_open K n) 42 L st S) ∧
  (∀ (K : Kt QT) (n : Nat) (L : xL) (st : List Value) (S : QT), nx cod_X7_open cut_X7_open K (n + 1) 43 L st S = (O_callV 0 0 (fun S => S) (fun _ S' => S') spa_X7_save) (nx cod_X7_open cut_X7_open K n) 43 L st S) ∧
  (∀ (K : Kt QT) (n : Nat) (L : xL) (st : List Value) (S : QT), nx cod_X7_open cut_X7_open K (n + 1) 46 L st S = (O_aload 0 1) (nx cod_X7_open cut_X7_open K n) 46 L st S) ∧
  (∀ (K : Kt QT) (n : Nat) (L : xL) (st : List Value) (S : QT), nx cod_X7_open cut_X7_open K (n + 1) 47 L st S = (O_getf aW 7 0) (nx cod_X7_open cut_X7_open K n) 47 L st S) ∧
  (∀ (K : Kt QT) (n : Nat) (L : xL) (st : List Value) (S : QT), nx cod_X7_open cut_X7_open K (n + 1) 50 L st S = (O_int 87 2) (nx cod_X7_open cut_X7_open K n) 50 L st S) ∧
  (∀ (K : Kt QT) (n : Nat) (L : xL) (st : List Value) (S : QT), nx cod_X7_open cut_X7_open K (n + 1) 52 L st S = (O_int 2 1) (nx cod_X7_open cut_X7_open K n) 52 L st S) ∧
  (∀ (K : Kt QT) (n : Nat) (L : xL) (st : List Value) (S : QT), nx cod_X7_open cut_X7_open K (n + 1) 53 L st S = (O_iload 1 1) (nx cod_X7_open cut_X7_open K n) 53 L st S) ∧
  (∀ (K : Kt QT) (n : Nat) (L : xL) (st : List Value) (S : QT), nx cod_X7_open cut_X7_open K (n + 1) 54 L st S = (O_imul) (nx cod_X7_open cut_X7_open K n) 54 L st S) ∧
  (∀ (K : Kt QT) (n : Nat) (L : xL) (st : List Value) (S : QT), nx cod_X7_open cut_X7_open K (n + 1) 55 L st S = (O_iadd) (nx cod_X7_open cut_X7_open K n) 55 L st S) ∧
  (∀ (K : Kt QT) (n : Nat) (L : xL) (st : List Value) (S : QT), nx cod_X7_open cut_X7_open K (n + 1) 56 L st S = (O_int 1 1) (nx cod_X7_open cut_X7_open K n) 56 L st S) ∧
  (∀ (K : Kt QT) (n : Nat) (L : xL) (st : List Value) (S : QT), nx cod_X7_open cut_X7_open K (n + 1) 57 L st S = (O_iadd) (nx cod_X7_open cut_X7_open K n) 57 L st S) ∧
  (∀ (K : Kt QT) (n : Nat) (L : xL) (st : List Value) (S : QT), nx cod_X7_open cut_X7_open K (n + 1) 58 L st S = (O_iload 2 1) (nx cod_X7_open cut_X7_open K n) 58 L st S) ∧
  (∀ (K : Kt QT) (n : Nat) (L : xL) (st : List Value) (S : QT), nx cod_X7_open cut_X7_open K (n + 1) 59 L st S = (O_asti aW aW_wi) (nx cod_X7_open cut_X7_open K n) 59 L st S) ∧
  (∀ (K : Kt QT) (n : Nat) (L : xL) (st : List Value) (S : QT), nx cod_X7_open cut_X7_open K (n + 1) 60 L st S = (O_aload 0 1) (nx cod_X7_open cut_X7_open K n) 60 L st S) ∧
  (∀ (K : Kt QT) (n : Nat) (L : xL) (st : List Value) (S : QT), nx cod_X7_open cut_X7_open K (n + 1) 61 L st S = (O_callV 0 0 (fun S => S) (fun _ S' => S') sp_X7_openZones) (nx cod_X7_open cut_X7_open K n) 61 L st S) ∧
  (∀ (K : Kt QT) (n : Nat) (L : xL) (st : List Value) (S : QT), nx cod_X7_open cut_X7_open K (n + 1) 64 L st S = (O_iret) (nx cod_X7_open cut_X7_open K n) 64 L st S) ∧
  (∀ (K : Kt QT) (n : Nat) (L : xL) (st : List Value) (S : QT), nx cod_X7_open cut_X7_open K (n + 1) 100000 L st S = K 100000 L st S) := by
  repeat' apply And.intro
  all_goals (intros; rfl)
set_option maxRecDepth 100000 in
theorem mk_X7_open {P P' : QT} {r : Option Value} {p0 : Int32} {p1 : Int32} (body : ∀ E : En, CodOk E aW cod_X7_open → Gd E aW 100000 [] r.toList P' → Gd E aW 0 [some (.ref 0), some (.int p0), some (.int p1)] [] P) : Con yX7_open cX7_open 3 (some .int) 2 aW [.ref 0, .int p0, .int p1] P r P' :=
  Con.of (by decide) ((aW_len P').trans (aW_len P).symm) rfl (Nat.le_of_ble_eq_true rfl) (fun E F G hr => body E (okc_X7_open F G) hr)
set_option maxRecDepth 10000 in
theorem con_X7_open (S : ST) (M : MT) (fl : Bool) (z : Int32) (is : Int32) (hp : S.inv 1 ∧ isN M.savedMany M.k 4) : Con yX7_open cX7_open 3 (some .int) 2 aW [.ref 0, .int z, .int is] (S, M, fl) (some (.int (if okOpen7 S z is = false then -1000001 else if S.Z.isOpen z.toNatClampNeg = is then -1000002 else (S.Z.sIsOpen (upd S.Z.isOpen z.toNatClampNeg is)).openOnes))) ((if okOpen7 S z is = true ∧ ¬ S.Z.isOpen z.toNatClampNeg = is then (S.sZ (S.Z.sIsOpen (upd S.Z.isOpen z.toNatClampNeg is)), M.saveA S, fl) else (S, M, fl))) := by
  refine mk_X7_open (fun E C hr => ?_)
  obtain ⟨hi, hs⟩ := hp
  have ho := hi.2.1.1
  have hbits := hi.2.1.2.1
  by_cases c1 : S.Z.has z = true
  · by_cases c2 : inR is 0 1 = true
    · have hc : okOpen7 S z is = true := by unfold okOpen7; rw [c1, c2]; rfl
      have hb := is01 c2
      have hv := ZT.has_in ho c1
      obtain ⟨i, hi8, ez, e1, e2, e3, e4, e5⟩ := at_zone hv
      have hbo := ZT.bits_set hbits i hb
      have w1 := fun x => sn_wr S (M.saveA S) fl (87 + 2 * i + 1) x (by omega) (by omega) (by omega)
      simp only [wr_zone S hi8] at w1
      rw [if_neg (by rw [hc]; decide), e1] at hr
      by_cases c3 : S.Z.isOpen i = is
      · rw [if_pos c3, if_neg (fun z => z.2 c3)] at hr
        clear hc ez
        rcases op_facts hbits hi8 with ⟨q1, q2⟩ | ⟨q1, q2⟩
        · have : is = 0 := by rw [← c3, q1]
          subst this
          (refine nx_ok C (cuts := cut_X7_open) 1000 _ _ _ _ ?_; simp only [w_X7_open, ops_eq, xst_eq, call_eq, oK_eq, Option.toList_some, Option.toList_none, List.cons_append, List.nil_append, List.length_cons, List.length_nil, true_and, and_true, Nat.reduceAdd, aW_F, aW_A, aW_P, aW_w, abs_eq, O_asti_eq, v170, cl_eq, ST_id, MT_gs, ST_gs, PT_gs, ZT_gs, NT_gs, ET_gs, se_X7_isZone, se_X7_in, se_X7_isOpen, sea_X7_save, se_X7_openZones, bI_eq, inL_lit, c1, c2, hv, ho, hbits, e1, q2])
          ((repeat' (with_reducible first | apply And.intro | intro _)) <;> first | (with_reducible assumption) | (with_reducible exact Nat.zero_le _) | contradiction | (simp only [Option.toList_none, Option.toList_some] at hr; with_reducible assumption) | (simp_all; done) | assumption)
        · have : is = 1 := by rw [← c3, q1]
          subst this
          (refine nx_ok C (cuts := cut_X7_open) 1000 _ _ _ _ ?_; simp only [w_X7_open, ops_eq, xst_eq, call_eq, oK_eq, Option.toList_some, Option.toList_none, List.cons_append, List.nil_append, List.length_cons, List.length_nil, true_and, and_true, Nat.reduceAdd, aW_F, aW_A, aW_P, aW_w, abs_eq, O_asti_eq, v170, cl_eq, ST_id, MT_gs, ST_gs, PT_gs, ZT_gs, NT_gs, ET_gs, se_X7_isZone, se_X7_in, se_X7_isOpen, sea_X7_save, se_X7_openZones, bI_eq, inL_lit, c1, c2, hv, ho, hbits, e1, q2])
          ((repeat' (with_reducible first | apply And.intro | intro _)) <;> first | (with_reducible assumption) | (with_reducible exact Nat.zero_le _) | contradiction | (simp only [Option.toList_none, Option.toList_some] at hr; with_reducible assumption) | (simp_all; done) | assumption)
      · rw [if_neg c3, if_pos ⟨hc, c3⟩] at hr
        clear hc ez
        have hoo : (S.Z.sIsOpen (upd S.Z.isOpen i is)).ok := ho
        rcases op_facts hbits hi8 with ⟨q1, q2⟩ | ⟨q1, q2⟩
        · have h1 : is = 1 := by
            rcases hb with h | h
            · exact absurd (q1.trans h.symm) c3
            · exact h
          subst h1
          (refine nx_ok C (cuts := cut_X7_open) 1000 _ _ _ _ ?_; simp only [w_X7_open, ops_eq, xst_eq, call_eq, oK_eq, Option.toList_some, Option.toList_none, List.cons_append, List.nil_append, List.length_cons, List.length_nil, true_and, and_true, Nat.reduceAdd, aW_F, aW_A, aW_P, aW_w, abs_eq, O_asti_eq, v170, cl_eq, ST_id, MT_gs, ST_gs, PT_gs, ZT_gs, NT_gs, ET_gs, se_X7_isZone, se_X7_in, se_X7_isOpen, sea_X7_save, se_X7_openZones, bI_eq, inL_lit, c1, c2, hv, ho, hbits, e1, q2, hs, e4, e5, w1, hoo, hbo])
          ((repeat' (with_reducible first | apply And.intro | intro _)) <;> first | (with_reducible assumption) | (with_reducible exact Nat.zero_le _) | contradiction | (simp only [Option.toList_none, Option.toList_some] at hr; with_reducible assumption) | (simp_all; done) | assumption)
        · have h1 : is = 0 := by
            rcases hb with h | h
            · exact h
            · exact absurd (q1.trans h.symm) c3
          subst h1
          (refine nx_ok C (cuts := cut_X7_open) 1000 _ _ _ _ ?_; simp only [w_X7_open, ops_eq, xst_eq, call_eq, oK_eq, Option.toList_some, Option.toList_none, List.cons_append, List.nil_append, List.length_cons, List.length_nil, true_and, and_true, Nat.reduceAdd, aW_F, aW_A, aW_P, aW_w, abs_eq, O_asti_eq, v170, cl_eq, ST_id, MT_gs, ST_gs, PT_gs, ZT_gs, NT_gs, ET_gs, se_X7_isZone, se_X7_in, se_X7_isOpen, sea_X7_save, se_X7_openZones, bI_eq, inL_lit, c1, c2, hv, ho, hbits, e1, q2, hs, e4, e5, w1, hoo, hbo])
          ((repeat' (with_reducible first | apply And.intro | intro _)) <;> first | (with_reducible assumption) | (with_reducible exact Nat.zero_le _) | contradiction | (simp only [Option.toList_none, Option.toList_some] at hr; with_reducible assumption) | (simp_all; done) | assumption)
    · have c2 := bnot c2
      have hc : okOpen7 S z is = false := by unfold okOpen7; rw [c1, c2]; rfl
      rw [if_pos hc, if_neg (fun z => by rw [hc] at z; cases z.1)] at hr
      (refine nx_ok C (cuts := cut_X7_open) 1000 _ _ _ _ ?_; simp only [w_X7_open, ops_eq, xst_eq, call_eq, oK_eq, Option.toList_some, Option.toList_none, List.cons_append, List.nil_append, List.length_cons, List.length_nil, true_and, and_true, Nat.reduceAdd, aW_F, aW_A, aW_P, aW_w, abs_eq, O_asti_eq, v170, cl_eq, ST_id, MT_gs, ST_gs, PT_gs, ZT_gs, NT_gs, ET_gs, se_X7_isZone, se_X7_in, se_X7_isOpen, sea_X7_save, se_X7_openZones, bI_eq, inL_lit, c1, c2, ho])
      ((repeat' (with_reducible first | apply And.intro | intro _)) <;> first | (with_reducible assumption) | (with_reducible exact Nat.zero_le _) | contradiction | (simp only [Option.toList_none, Option.toList_some] at hr; with_reducible assumption) | (simp_all; done) | assumption)
  · have c1 := bnot c1
    have hc : okOpen7 S z is = false := by unfold okOpen7; rw [c1]; rfl
    rw [if_pos hc, if_neg (fun z => by rw [hc] at z; cases z.1)] at hr
    (refine nx_ok C (cuts := cut_X7_open) 1000 _ _ _ _ ?_; simp only [w_X7_open, ops_eq, xst_eq, call_eq, oK_eq, Option.toList_some, Option.toList_none, List.cons_append, List.nil_append, List.length_cons, List.length_nil, true_and, and_true, Nat.reduceAdd, aW_F, aW_A, aW_P, aW_w, abs_eq, O_asti_eq, v170, cl_eq, ST_id, MT_gs, ST_gs, PT_gs, ZT_gs, NT_gs, ET_gs, se_X7_isZone, se_X7_in, se_X7_isOpen, sea_X7_save, se_X7_openZones, bI_eq, inL_lit, c1, ho])
    ((repeat' (with_reducible first | apply And.intro | intro _)) <;> first | (with_reducible assumption) | (with_reducible exact Nat.zero_le _) | contradiction | (simp only [Option.toList_none, Option.toList_some] at hr; with_reducible assumption) | (simp_all; done) | assumption)
def spc_X7_open (S : ST) (M : MT) (fl : Bool) (z : Int32) (is : Int32) (K : Option Value → QT → Prop) : Prop := (S.inv 1 ∧ isN M.savedMany M.k 4) ∧ K (some (.int (if okOpen7 S z is = false then -1000001 else if S.Z.isOpen z.toNatClampNeg = is then -1000002 else (S.Z.sIsOpen (upd S.Z.isOpen z.toNatClampNeg is)).openOnes))) ((if okOpen7 S z is = true ∧ ¬ S.Z.isOpen z.toNatClampNeg = is then (S.sZ (S.Z.sIsOpen (upd S.Z.isOpen z.toNatClampNeg is)), M.saveA S, fl) else (S, M, fl)))
def sp_X7_open : Sp QT := fun av q K => match av with
  | [.ref 0, .int z, .int is] => spc_X7_open q.1 q.2.1 q.2.2 z is K
  | _ => False
theorem se_X7_open (S : ST) (M : MT) (fl : Bool) (z : Int32) (is : Int32) (K : Option Value → QT → Prop) : sp_X7_open [.ref 0, .int z, .int is] (S, M, fl) K = ((S.inv 1 ∧ isN M.savedMany M.k 4) ∧ K (some (.int (if okOpen7 S z is = false then -1000001 else if S.Z.isOpen z.toNatClampNeg = is then -1000002 else (S.Z.sIsOpen (upd S.Z.isOpen z.toNatClampNeg is)).openOnes))) ((if okOpen7 S z is = true ∧ ¬ S.Z.isOpen z.toNatClampNeg = is then (S.sZ (S.Z.sIsOpen (upd S.Z.isOpen z.toNatClampNeg is)), M.saveA S, fl) else (S, M, fl)))) := rfl
theorem spok_X7_open : SpOk yX7_open cX7_open 3 (some .int) 2 aW sp_X7_open := by
  intro av q K h
  unfold sp_X7_open at h
  split at h
  · rename_i z is; refine ⟨_, _, ?_, con_X7_open q.1 q.2.1 q.2.2 z is h.1, h.2⟩; trivial
  · exact h.elim
def okProg7 (S : ST) (z f t : Int32) : Bool := S.Z.has z && inR f 0 1439 && inR t 0 1439 && decide (¬ f = t)
def cod_X7_programme : List (Nat × Op QT) := [(0, O_aload 0 1), (1, O_iload 1 1), (2, O_callV 1 0 (fun S => S) (fun _ S' => S') sp_X7_isZone), (5, O_if_eq 37), (8, O_iload 2 1), (9, O_i2l), (10, O_long 0 1), (11, O_long 1439 3), (14, O_callS 3 sp_X7_in), (17, O_if_eq 37), (20, O_iload 3 1), (21, O_i2l), (22, O_long 0 1), (23, O_long 1439 3), (26, O_callS 3 sp_X7_in), (29, O_if_eq 37), (32, O_iload 2 1), (33, O_iload 3 1), (34, O_icmp_ne 40), (37, O_int (-1000001) 2), (39, O_iret), (40, O_aload 0 1), (41, O_getf aW 7 0), (44, O_int 16 2), (46, O_ald aW 0), (47, O_int 8 2), (49, O_icmp_ne 55), (52, O_int (-1000003) 2), (54, O_iret), (55, O_aload 0 1), (56, O_callV 0 0 (fun S => S) (fun _ S' => S') spa_X7_save), (59, O_int 103 2), (61, O_int 3 1), (62, O_aload 0 1), (63, O_getf aW 7 0), (66, O_int 16 2), (68, O_ald aW 0), (69, O_imul), (70, O_iadd), (71, O_istore 4 2), (73, O_aload 0 1), (74, O_getf aW 7 0), (77, O_iload 4 2), (79, O_iload 1 1), (80, O_asti aW aW_wi), (81, O_aload 0 1), (82, O_getf aW 7 0), (85, O_iload 4 2), (87, O_int 1 1), (88, O_iadd), (89, O_iload 2 1), (90, O_asti aW aW_wi), (91, O_aload 0 1), (92, O_getf aW 7 0), (95, O_iload 4 2), (97, O_int 2 1), (98, O_iadd), (99, O_iload 3 1), (100, O_asti aW aW_wi), (101, O_aload 0 1), (102, O_getf aW 7 0), (105, O_int 16 2), (107, O_dup2), (108, O_ald aW 0), (109, O_int 1 1), (110, O_iadd), (111, O_asti aW aW_wi), (112, O_aload 0 1), (113, O_getf aW 7 0), (116, O_int 16 2), (118, O_ald aW 0), (119, O_iret)]
abbrev cut_X7_programme : List Nat := []
set_option maxRecDepth 100000 in
theorem okc_X7_programme {E : En} (F : Fx E RX7 cX7_programme 5 2) (G : Fr E (some .int)) : CodOk E aW cod_X7_programme := by
  unfold CodOk cod_X7_programme
  refine List.forall_mem_cons.mpr ⟨ok_aload_n F dX7_programme_0 rfl (by decide), ?_⟩
  refine List.forall_mem_cons.mpr ⟨ok_iload_n F dX7_programme_1 rfl (by decide), ?_⟩
  refine List.forall_mem_cons.mpr ⟨ok_callV F spok_X7_isZone (ln_id aW) rcv_aW (by decide +kernel) (by decide) dX7_programme_2 (by decide), ?_⟩
  refine List.forall_mem_cons.mpr ⟨ok_if_eq F dX7_programme_5 (by decide) (by decide) (by decide), ?_⟩
  refine List.forall_mem_cons.mpr ⟨ok_iload_n F dX7_programme_8 rfl (by decide), ?_⟩
  refine List.forall_mem_cons.mpr ⟨ok_i2l F dX7_programme_9 (by decide), ?_⟩
  refine List.forall_mem_cons.mpr ⟨ok_lconst F dX7_programme_10 (by decide) (by decide), ?_⟩
  refine List.forall_mem_cons.mpr ⟨ok_ldc2 F (ix := 46) (wsHas_mem (l := [Jvm.Cond.constantLong RX7 46 1439]) (by decide +kernel) (by simp)) dX7_programme_11 (by decide), ?_⟩
  refine List.forall_mem_cons.mpr ⟨ok_callS F spok_X7_in (by decide +kernel) rfl (by decide) dX7_programme_14 (by decide), ?_⟩
  refine List.forall_mem_cons.mpr ⟨ok_if_eq F dX7_programme_17 (by decide) (by decide) (by decide), ?_⟩
  refine List.forall_mem_cons.mpr ⟨ok_iload_n F dX7_programme_20 rfl (by decide), ?_⟩
  refine List.forall_mem_cons.mpr ⟨ok_i2l F dX7_programme_21 (by decide), ?_⟩
  refine List.forall_mem_cons.mpr ⟨ok_lconst F dX7_programme_22 (by decide) (by decide), ?_⟩
  refine List.forall_mem_cons.mpr ⟨ok_ldc2 F (ix := 46) (wsHas_mem (l := [Jvm.Cond.constantLong RX7 46 1439]) (by decide +kernel) (by simp)) dX7_programme_23 (by decide), ?_⟩
  refine List.forall_mem_cons.mpr ⟨ok_callS F spok_X7_in (by decide +kernel) rfl (by decide) dX7_programme_26 (by decide), ?_⟩
  refine List.forall_mem_cons.mpr ⟨ok_if_eq F dX7_programme_29 (by decide) (by decide) (by decide), ?_⟩
  refine List.forall_mem_cons.mpr ⟨ok_iload_n F dX7_programme_32 rfl (by decide), ?_⟩
  refine List.forall_mem_cons.mpr ⟨ok_iload_n F dX7_programme_33 rfl (by decide), ?_⟩
  refine List.forall_mem_cons.mpr ⟨ok_icmp_ne F dX7_programme_34 (by decide) (by decide) (by decide), ?_⟩
  refine List.forall_mem_cons.mpr ⟨ok_ldc F (ix := 62) (wsHas_mem (l := [Jvm.Cond.constant RX7 62 (-1000001)]) (by decide +kernel) (by simp)) dX7_programme_37 (by decide), ?_⟩
  refine List.forall_mem_cons.mpr ⟨ok_iret F G dX7_programme_39 (by decide), ?_⟩
  refine List.forall_mem_cons.mpr ⟨ok_aload_n F dX7_programme_40 rfl (by decide), ?_⟩
  refine List.forall_mem_cons.mpr ⟨ok_getf F flX7_7 dX7_programme_41 (by decide), ?_⟩
  refine List.forall_mem_cons.mpr ⟨ok_bipush F dX7_programme_44 (by decide) (by decide), ?_⟩
  refine List.forall_mem_cons.mpr ⟨ok_iald F dX7_programme_46 (by decide), ?_⟩
  refine List.forall_mem_cons.mpr ⟨ok_bipush F dX7_programme_47 (by decide) (by decide), ?_⟩
  refine List.forall_mem_cons.mpr ⟨ok_icmp_ne F dX7_programme_49 (by decide) (by decide) (by decide), ?_⟩
  refine List.forall_mem_cons.mpr ⟨ok_ldc F (ix := 73) (wsHas_mem (l := [Jvm.Cond.constant RX7 73 (-1000003)]) (by decide +kernel) (by simp)) dX7_programme_52 (by decide), ?_⟩
  refine List.forall_mem_cons.mpr ⟨ok_iret F G dX7_programme_54 (by decide), ?_⟩
  refine List.forall_mem_cons.mpr ⟨ok_aload_n F dX7_programme_55 rfl (by decide), ?_⟩
  refine List.forall_mem_cons.mpr ⟨ok_callV F spoka_X7_save (ln_id aW) rcv_aW (by decide +kernel) (by decide) dX7_programme_56 (by decide), ?_⟩
  refine List.forall_mem_cons.mpr ⟨ok_bipush F dX7_programme_59 (by decide) (by decide), ?_⟩
  refine List.forall_mem_cons.mpr ⟨ok_iconst F dX7_programme_61 (by decide) (by decide), ?_⟩
  refine List.forall_mem_cons.mpr ⟨ok_aload_n F dX7_programme_62 rfl (by decide), ?_⟩
  refine List.forall_mem_cons.mpr ⟨ok_getf F flX7_7 dX7_programme_63 (by decide), ?_⟩
  refine List.forall_mem_cons.mpr ⟨ok_bipush F dX7_programme_66 (by decide) (by decide), ?_⟩
  refine List.forall_mem_cons.mpr ⟨ok_iald F dX7_programme_68 (by decide), ?_⟩
  refine List.forall_mem_cons.mpr ⟨ok_imul F dX7_programme_69 (by decide), ?_⟩
  refine List.forall_mem_cons.mpr ⟨ok_iadd F dX7_programme_70 (by decide), ?_⟩
  refine List.forall_mem_cons.mpr ⟨ok_istore F dX7_programme_71 (by decide) (by decide), ?_⟩
  refine List.forall_mem_cons.mpr ⟨ok_aload_n F dX7_programme_73 rfl (by decide), ?_⟩
  refine List.forall_mem_cons.mpr ⟨ok_getf F flX7_7 dX7_programme_74 (by decide), ?_⟩
  refine List.forall_mem_cons.mpr ⟨ok_iload F dX7_programme_77 (by decide), ?_⟩
  refine List.forall_mem_cons.mpr ⟨ok_iload_n F dX7_programme_79 rfl (by decide), ?_⟩
  refine List.forall_mem_cons.mpr ⟨ok_asti F aW_wok dX7_programme_80 (by decide), ?_⟩
  refine List.forall_mem_cons.mpr ⟨ok_aload_n F dX7_programme_81 rfl (by decide), ?_⟩
  refine List.forall_mem_cons.mpr ⟨ok_getf F flX7_7 dX7_programme_82 (by decide), ?_⟩
  refine List.forall_mem_cons.mpr ⟨ok_iload F dX7_programme_85 (by decide), ?_⟩
  refine List.forall_mem_cons.mpr ⟨ok_iconst F dX7_programme_87 (by decide) (by decide), ?_⟩
  refine List.forall_mem_cons.mpr ⟨ok_iadd F dX7_programme_88 (by decide), ?_⟩
  refine List.forall_mem_cons.mpr ⟨ok_iload_n F dX7_programme_89 rfl (by decide), ?_⟩
  refine List.forall_mem_cons.mpr ⟨ok_asti F aW_wok dX7_programme_90 (by decide), ?_⟩
  refine List.forall_mem_cons.mpr ⟨ok_aload_n F dX7_programme_91 rfl (by decide), ?_⟩
  refine List.forall_mem_cons.mpr ⟨ok_getf F flX7_7 dX7_programme_92 (by decide), ?_⟩
  refine List.forall_mem_cons.mpr ⟨ok_iload F dX7_programme_95 (by decide), ?_⟩
  refine List.forall_mem_cons.mpr ⟨ok_iconst F dX7_programme_97 (by decide) (by decide), ?_⟩
  refine List.forall_mem_cons.mpr ⟨ok_iadd F dX7_programme_98 (by decide), ?_⟩
  refine List.forall_mem_cons.mpr ⟨ok_iload_n F dX7_programme_99 rfl (by decide), ?_⟩
  refine List.forall_mem_cons.mpr ⟨ok_asti F aW_wok dX7_programme_100 (by decide), ?_⟩
  refine List.forall_mem_cons.mpr ⟨ok_aload_n F dX7_programme_101 rfl (by decide), ?_⟩
  refine List.forall_mem_cons.mpr ⟨ok_getf F flX7_7 dX7_programme_102 (by decide), ?_⟩
  refine List.forall_mem_cons.mpr ⟨ok_bipush F dX7_programme_105 (by decide) (by decide), ?_⟩
  refine List.forall_mem_cons.mpr ⟨ok_dup2 F dX7_programme_107 (by decide), ?_⟩
  refine List.forall_mem_cons.mpr ⟨ok_iald F dX7_programme_108 (by decide), ?_⟩
  refine List.forall_mem_cons.mpr ⟨ok_iconst F dX7_programme_109 (by decide) (by decide), ?_⟩
  refine List.forall_mem_cons.mpr ⟨ok_iadd F dX7_programme_110 (by decide), ?_⟩
  refine List.forall_mem_cons.mpr ⟨ok_asti F aW_wok dX7_programme_111 (by decide), ?_⟩
  refine List.forall_mem_cons.mpr ⟨ok_aload_n F dX7_programme_112 rfl (by decide), ?_⟩
  refine List.forall_mem_cons.mpr ⟨ok_getf F flX7_7 dX7_programme_113 (by decide), ?_⟩
  refine List.forall_mem_cons.mpr ⟨ok_bipush F dX7_programme_116 (by decide) (by decide), ?_⟩
  refine List.forall_mem_cons.mpr ⟨ok_iald F dX7_programme_118 (by decide), ?_⟩
  refine List.forall_mem_cons.mpr ⟨ok_iret F G dX7_programme_119 (by decide), ?_⟩
  exact fun _ h => absurd h List.not_mem_nil
set_option maxRecDepth 100000 in
theorem w_X7_programme : (∀ (K : Kt QT) (n : Nat) (L : xL) (st : List Value) (S : QT), nx cod_X7_programme cut_X7_programme K (n + 1) 0 L st S = (O_aload 0 1) (nx cod_X7_programme cut_X7_programme K n) 0 L st S) ∧
  (∀ (K : Kt QT) (n : Nat) (L : xL) (st : List Value) (S : QT), nx cod_X7_programme cut_X7_programme K (n + 1) 1 L st S = (O_iload 1 1) (nx cod_X7_programme cut_X7_programme K n) 1 L st S) ∧
  (∀ (K : Kt QT) (n : Nat) (L : xL) (st : List Value) (S : QT), nx cod_X7_programme cut_X7_programme K (n + 1) 2 L st S = (O_callV 1 0 (fun S => S) (fun _ S' => S') sp_X7_isZone) (nx cod_X7_programme cut_X7_programme K n) 2 L st S) ∧
  (∀ (K : Kt QT) (n : Nat) (L : xL) (st : List Value) (S : QT), nx cod_X7_programme cut_X7_programme K (n + 1) 5 L st S = (O_if_eq 37) (nx cod_X7_programme cut_X7_programme K n) 5 L st S) ∧
  (∀ (K : Kt QT) (n : Nat) (L : xL) (st : List Value) (S : QT), nx cod_X7_programme cut_X7_programme K (n + 1) 8 L st S = (O_iload 2 1) (nx cod_X7_programme cut_X7_programme K n) 8 L st S) ∧
  (∀ (K : Kt QT) (n : Nat) (L : xL) (st : List Value) (S : QT), nx cod_X7_programme cut_X7_programme K (n + 1) 9 L st S = (O_i2l) (nx cod_X7_programme cut_X7_programme K n) 9 L st S) ∧
  (∀ (K : Kt QT) (n : Nat) (L : xL) (st : List Value) (S : QT), nx cod_X7_programme cut_X7_programme K (n + 1) 10 L st S = (O_long 0 1) (nx cod_X7_programme cut_X7_programme K n) 10 L st S) ∧
  (∀ (K : Kt QT) (n : Nat) (L : xL) (st : List Value) (S : QT), nx cod_X7_programme cut_X7_programme K (n + 1) 11 L st S = (O_long 1439 3) (nx cod_X7_programme cut_X7_programme K n) 11 L st S) ∧
  (∀ (K : Kt QT) (n : Nat) (L : xL) (st : List Value) (S : QT), nx cod_X7_programme cut_X7_programme K (n + 1) 14 L st S = (O_callS 3 sp_X7_in) (nx cod_X7_programme cut_X7_programme K n) 14 L st S) ∧
  (∀ (K : Kt QT) (n : Nat) (L : xL) (st : List Value) (S : QT), nx cod_X7_programme cut_X7_programme K (n + 1) 17 L st S = (O_if_eq 37) (nx cod_X7_programme cut_X7_programme K n) 17 L st S) ∧
  (∀ (K : Kt QT) (n : Nat) (L : xL) (st : List Value) (S : QT), nx cod_X7_programme cut_X7_programme K (n + 1) 20 L st S = (O_iload 3 1) (nx cod_X7_programme cut_X7_programme K n) 20 L st S) ∧
  (∀ (K : Kt QT) (n : Nat) (L : xL) (st : List Value) (S : QT), nx cod_X7_programme cut_X7_programme K (n + 1) 21 L st S = (O_i2l) (nx cod_X7_programme cut_X7_programme K n) 21 L st S) ∧
  (∀ (K : Kt QT) (n : Nat) (L : xL) (st : List Value) (S : QT), nx cod_X7_programme cut_X7_programme K (n + 1) 22 L st S = (O_long 0 1) (nx cod_X7_programme cut_X7_programme K n) 22 L st S) ∧
  (∀ (K : Kt QT) (n : Nat) (L : xL) (st : List Value) (S : QT), nx cod_X7_programme cut_X7_programme K (n + 1) 23 L st S = (O_long 1439 3) (nx cod_X7_programme cut_X7_programme K n) 23 L st S) ∧
  (∀ (K : Kt QT) (n : Nat) (L : xL) (st : List Value) (S : QT), nx cod_X7_programme cut_X7_programme K (n + 1) 26 L st S = (O_callS 3 sp_X7_in) (nx cod_X7_programme cut_X7_programme K n) 26 L st S) ∧
  (∀ (K : Kt QT) (n : Nat) (L : xL) (st : List Value) (S : QT), nx cod_X7_programme cut_X7_programme K (n + 1) 29 L st S = (O_if_eq 37) (nx cod_X7_programme cut_X7_programme K n) 29 L st S) ∧
  (∀ (K : Kt QT) (n : Nat) (L : xL) (st : List Value) (S : QT), nx cod_X7_programme cut_X7_programme K (n + 1) 32 L st S = (O_iload 2 1) (nx cod_X7_programme cut_X7_programme K n) 32 L st S) ∧
  (∀ (K : Kt QT) (n : Nat) (L : xL) (st : List Value) (S : QT), nx cod_X7_programme cut_X7_programme K (n + 1) 33 L st S = (O_iload 3 1) (nx cod_X7_programme cut_X7_programme K n) 33 L st S) ∧
  (∀ (K : Kt QT) (n : Nat) (L : xL) (st : List Value) (S : QT), nx cod_X7_programme cut_X7_programme K (n + 1) 34 L st S = (O_icmp_ne 40) (nx cod_X7_programme cut_X7_programme K n) 34 L st S) ∧
  (∀ (K : Kt QT) (n : Nat) (L : xL) (st : List Value) (S : QT), nx cod_X7_programme cut_X7_programme K (n + 1) 37 L st S = (O_int (-1000001) 2) (nx cod_X7_programme cut_X7_programme K n) 37 L st S) ∧
  (∀ (K : Kt QT) (n : Nat) (L : xL) (st : List Value) (S : QT), nx cod_X7_programme cut_X7_programme K (n + 1) 39 L st S = (O_iret) (nx cod_X7_programme cut_X7_programme K n) 39 L st S) ∧
  (∀ (K : Kt QT) (n : Nat) (L : xL) (st : List Value) (S : QT), nx cod_X7_programme cut_X7_programme K (n + 1) 40 L st S = (O_aload 0 1) (nx cod_X7_programme cut_X7_programme K n) 40 L st S) ∧
  (∀ (K : Kt QT) (n : Nat) (L : xL) (st : List Value) (S : QT), nx cod_X7_programme cut_X7_programme K (n + 1) 41 L st S = (O_getf aW 7 0) (nx cod_X7_programme cut_X7_programme K n) 41 L st S) ∧
  (∀ (K : Kt QT) (n : Nat) (L : xL) (st : List Value) (S : QT), nx cod_X7_programme cut_X7_programme K (n + 1) 44 L st S = (O_int 16 2) (nx cod_X7_programme cut_X7_programme K n) 44 L st S) ∧
  (∀ (K : Kt QT) (n : Nat) (L : xL) (st : List Value) (S : QT), nx cod_X7_programme cut_X7_programme K (n + 1) 46 L st S = (O_ald aW 0) (nx cod_X7_programme cut_X7_programme K n) 46 L st S) ∧
  (∀ (K : Kt QT) (n : Nat) (L : xL) (st : List Value) (S : QT), nx cod_X7_programme cut_X7_programme K (n + 1) 47 L st S = (O_int 8 2) (nx cod_X7_programme cut_X7_programme K n) 47 L st S) ∧
  (∀ (K : Kt QT) (n : Nat) (L : xL) (st : List Value) (S : QT), nx cod_X7_programme cut_X7_programme K (n + 1) 49 L st S = (O_icmp_ne 55) (nx cod_X7_programme cut_X7_programme K n) 49 L st S) ∧
  (∀ (K : Kt QT) (n : Nat) (L : xL) (st : List Value) (S : QT), nx cod_X7_programme cut_X7_programme K (n + 1) 52 L st S = (O_int (-1000003) 2) (nx cod_X7_programme cut_X7_programme K n) 52 L st S) ∧
  (∀ (K : Kt QT) (n : Nat) (L : xL) (st : List Value) (S : QT), nx cod_X7_programme cut_X7_programme K (n + 1) 54 L st S = (O_iret) (nx cod_X7_programme cut_X7_programme K n) 54 L st S) ∧
  (∀ (K : Kt QT) (n : Nat) (L : xL) (st : List Value) (S : QT), nx cod_X7_programme cut_X7_programme K (n + 1) 55 L st S = (O_aload 0 1) (nx cod_X7_programme cut_X7_programme K n) 55 L st S) ∧
  (∀ (K : Kt QT) (n : Nat) (L : xL) (st : List Value) (S : QT), nx cod_X7_programme cut_X7_programme K (n + 1) 56 L st S = (O_callV 0 0 (fun S => S) (fun _ S' => S') spa_X7_save) (nx cod_X7_programme cut_X7_programme K n) 56 L st S) ∧
  (∀ (K : Kt QT) (n : Nat) (L : xL) (st : List Value) (S : QT), nx cod_X7_programme cut_X7_programme K (n + 1) 59 L st S = (O_int 103 2) (nx cod_X7_programme cut_X7_programme K n) 59 L st S) ∧
  (∀ (K : Kt QT) (n : Nat) (L : xL) (st : List Value) (S : QT), nx cod_X7_programme cut_X7_programme K (n + 1) 61 L st S = (O_int 3 1) (nx cod_X7_programme cut_X7_programme K n) 61 L st S) ∧
  (∀ (K : Kt QT) (n : Nat) (L : xL) (st : List Value) (S : QT), nx cod_X7_programme cut_X7_programme K (n + 1) 62 L st S = (O_aload 0 1) (nx cod_X7_programme cut_X7_programme K n) 62 L st S) ∧
  (∀ (K : Kt QT) (n : Nat) (L : xL) (st : List Value) (S : QT), nx cod_X7_programme cut_X7_programme K (n + 1) 63 L st S = (O_getf aW 7 0) (nx cod_X7_programme cut_X7_programme K n) 63 L st S) ∧
  (∀ (K : Kt QT) (n : Nat) (L : xL) (st : List Value) (S : QT), nx cod_X7_programme cut_X7_programme K (n + 1) 66 L st S = (O_int 16 2) (nx cod_X7_programme cut_X7_programme K n) 66 L st S) ∧
  (∀ (K : Kt QT) (n : Nat) (L : xL) (st : List Value) (S : QT), nx cod_X7_programme cut_X7_programme K (n + 1) 68 L st S = (O_ald aW 0) (nx cod_X7_programme cut_X7_programme K n) 68 L st S) ∧
  (∀ (K : Kt QT) (n : Nat) (L : xL) (st : List Value) (S : QT), nx cod_X7_programme cut_X7_programme K (n + 1) 69 L st S = (O_imul) (nx cod_X7_programme cut_X7_programme K n) 69 L st S) ∧
  (∀ (K : Kt QT) (n : Nat) (L : xL) (st : List Value) (S : QT), nx cod_X7_programme cut_X7_programme K (n + 1) 70 L st S = (O_iadd) (nx cod_X7_programme cut_X7_programme K n) 70 L st S) ∧
  (∀ (K : Kt QT) (n : Nat) (L : xL) (st : List Value) (S : QT), nx cod_X7_programme cut_X7_programme K (n + 1) 71 L st S = (O_istore 4 2) (nx cod_X7_programme cut_X7_programme K n) 71 L st S) ∧
  (∀ (K : Kt QT) (n : Nat) (L : xL) (st : List Value) (S : QT), nx cod_X7_programme cut_X7_programme K (n + 1) 73 L st S = (O_aload 0 1) (nx cod_X7_programme cut_X7_programme K n) 73 L st S) ∧
  (∀ (K : Kt QT) (n : Nat) (L : xL) (st : List Value) (S : QT), nx cod_X7_programme cut_X7_programme K (n + 1) 74 L st S = (O_getf aW 7 0) (nx cod_X7_programme cut_X7_programme K n) 74 L st S) ∧
  (∀ (K : Kt QT) (n : Nat) (L : xL) (st : List Value) (S : QT), nx cod_X7_programme cut_X7_programme K (n + 1) 77 L st S = (O_iload 4 2) (nx cod_X7_programme cut_X7_programme K n) 77 L st S) ∧
  (∀ (K : Kt QT) (n : Nat) (L : xL) (st : List Value) (S : QT), nx cod_X7_programme cut_X7_programme K (n + 1) 79 L st S = (O_iload 1 1) (nx cod_X7_programme cut_X7_programme K n) 79 L st S) ∧
  (∀ (K : Kt QT) (n : Nat) (L : xL) (st : List Value) (S : QT), nx cod_X7_programme cut_X7_programme K (n + 1) 80 L st S = (O_asti aW aW_wi) (nx cod_X7_programme cut_X7_programme K n) 80 L st S) ∧
  (∀ (K : Kt QT) (n : Nat) (L : xL) (st : List Value) (S : QT), nx cod_X7_programme cut_X7_programme K (n + 1) 81 L st S = (O_aload 0 1) (nx cod_X7_programme cut_X7_programme K n) 81 L st S) ∧
  (∀ (K : Kt QT) (n : Nat) (L : xL) (st : List Value) (S : QT), nx cod_X7_programme cut_X7_programme K (n + 1) 82 L st S = (O_getf aW 7 0) (nx cod_X7_programme cut_X7_programme K n) 82 L st S) ∧
  (∀ (K : Kt QT) (n : Nat) (L : xL) (st : List Value) (S : QT), nx cod_X7_programme cut_X7_programme K (n + 1) 85 L st S = (O_iload 4 2) (nx cod_X7_programme cut_X7_programme K n) 85 L st S) ∧
  (∀ (K : Kt QT) (n : Nat) (L : xL) (st : List Value) (S : QT), nx cod_X7_programme cut_X7_programme K (n + 1) 87 L st S = (O_int 1 1) (nx cod_X7_programme cut_X7_programme K n) 87 L st S) ∧
  (∀ (K : Kt QT) (n : Nat) (L : xL) (st : List Value) (S : QT), nx cod_X7_programme cut_X7_programme K (n + 1) 88 L st S = (O_iadd) (nx cod_X7_programme cut_X7_programme K n) 88 L st S) ∧
  (∀ (K : Kt QT) (n : Nat) (L : xL) (st : List Value) (S : QT), nx cod_X7_programme cut_X7_programme K (n + 1) 89 L st S = (O_iload 2 1) (nx cod_X7_programme cut_X7_programme K n) 89 L st S) ∧
  (∀ (K : Kt QT) (n : Nat) (L : xL) (st : List Value) (S : QT), nx cod_X7_programme cut_X7_programme K (n + 1) 90 L st S = (O_asti aW aW_wi) (nx cod_X7_programme cut_X7_programme K n) 90 L st S) ∧
  (∀ (K : Kt QT) (n : Nat) (L : xL) (st : List Value) (S : QT), nx cod_X7_programme cut_X7_programme K (n + 1) 91 L st S = (O_aload 0 1) (nx cod_X7_programme cut_X7_programme K n) 91 L st S) ∧
  (∀ (K : Kt QT) (n : Nat) (L : xL) (st : List Value) (S : QT), nx cod_X7_programme cut_X7_programme K (n + 1) 92 L st S = (O_getf aW 7 0) (nx cod_X7_programme cut_X7_programme K n) 92 L st S) ∧
  (∀ (K : Kt QT) (n : Nat) (L : xL) (st : List Value) (S : QT), nx cod_X7_programme cut_X7_programme K (n + 1) 95 L st S = (O_iload 4 2) (nx cod_X7_programme cut_X7_programme K n) 95 L st S) ∧
  (∀ (K : Kt QT) (n : Nat) (L : xL) (st : List Value) (S : QT), nx cod_X7_programme cut_X7_programme K (n + 1) 97 L st S = (O_int 2 1) (nx cod_X7_programme cut_X7_programme K n) 97 L st S) ∧
  (∀ (K : Kt QT) (n : Nat) (L : xL) (st : List Value) (S : QT), nx cod_X7_programme cut_X7_programme K (n + 1) 98 L st S = (O_iadd) (nx cod_X7_programme cut_X7_programme K n) 98 L st S) ∧
  (∀ (K : Kt QT) (n : Nat) (L : xL) (st : List Value) (S : QT), nx cod_X7_programme cut_X7_programme K (n + 1) 99 L st S = (O_iload 3 1) (nx cod_X7_programme cut_X7_programme K n) 99 L st S) ∧
  (∀ (K : Kt QT) (n : Nat) (L : xL) (st : List Value) (S : QT), nx cod_X7_programme cut_X7_programme K (n + 1) 100 L st S = (O_asti aW aW_wi) (nx cod_X7_programme cut_X7_programme K n) 100 L st S) ∧
  (∀ (K : Kt QT) (n : Nat) (L : xL) (st : List Value) (S : QT), nx cod_X7_programme cut_X7_programme K (n + 1) 101 L st S = (O_aload 0 1) (nx cod_X7_programme cut_X7_programme K n) 101 L st S) ∧
  (∀ (K : Kt QT) (n : Nat) (L : xL) (st : List Value) (S : QT), nx cod_X7_programme cut_X7_programme K (n + 1) 102 L st S = (O_getf aW 7 0) (nx cod_X7_programme cut_X7_programme K n) 102 L st S) ∧
  (∀ (K : Kt QT) (n : Nat) (L : xL) (st : List Value) (S : QT), nx cod_X7_programme cut_X7_programme K (n + 1) 105 L st S = (O_int 16 2) (nx cod_X7_programme cut_X7_programme K n) 105 L st S) ∧
  (∀ (K : Kt QT) (n : Nat) (L : xL) (st : List Value) (S : QT), nx cod_X7_programme cut_X7_programme K (n + 1) 107 L st S = (O_dup2) (nx cod_X7_programme cut_X7_programme K n) 107 L st S) ∧
  (∀ (K : Kt QT) (n : Nat) (L : xL) (st : List Value) (S : QT), nx cod_X7_programme cut_X7_programme K (n + 1) 108 L st S = (O_ald aW 0) (nx cod_X7_programme cut_X7_programme K n) 108 L st S) ∧
  (∀ (K : Kt QT) (n : Nat) (L : xL) (st : List Value) (S : QT), nx cod_X7_programme cut_X7_programme K (n + 1) 109 L st S = (O_int 1 1) (nx cod_X7_programme cut_X7_programme K n) 109 L st S) ∧
  (∀ (K : Kt QT) (n : Nat) (L : xL) (st : List Value) (S : QT), nx cod_X7_programme cut_X7_programme K (n + 1) 110 L st S = (O_iadd) (nx cod_X7_programme cut_X7_programme K n) 110 L st S) ∧
  (∀ (K : Kt QT) (n : Nat) (L : xL) (st : List Value) (S : QT), nx cod_X7_programme cut_X7_programme K (n + 1) 111 L st S = (O_asti aW aW_wi) (nx cod_X7_programme cut_X7_programme K n) 111 L st S) ∧
  (∀ (K : Kt QT) (n : Nat) (L : xL) (st : List Value) (S : QT), nx cod_X7_programme cut_X7_programme K (n + 1) 112 L st S = (O_aload 0 1) (nx cod_X7_programme cut_X7_programme K n) 112 L st S) ∧
  (∀ (K : Kt QT) (n : Nat) (L : xL) (st : List Value) (S : QT), nx cod_X7_programme cut_X7_programme K (n + 1) 113 L st S = (O_getf aW 7 0) (nx cod_X7_programme cut_X7_programme K n) 113 L st S) ∧
  (∀ (K : Kt QT) (n : Nat) (L : xL) (st : List Value) (S : QT), nx cod_X7_programme cut_X7_programme K (n + 1) 116 L st S = (O_int 16 2) (nx cod_X7_programme cut_X7_programme K n) 116 L st S) ∧
  (∀ (K : Kt QT) (n : Nat) (L : xL) (st : List Value) (S : QT), nx cod_X7_programme cut_X7_programme K (n + 1) 118 L st S = (O_ald aW 0) (nx cod_X7_programme cut_X7_programme K n) 118 L st S) ∧
  (∀ (K : Kt QT) (n : Nat) (L : xL) (st : List Value) (S : QT), nx cod_X7_programme cut_X7_programme K (n + 1) 119 L st S = (O_iret) (nx cod_X7_programme cut_X7_programme K n) 119 L st S) ∧
  (∀ (K : Kt QT) (n : Nat) (L : xL) (st : List Value) (S : QT), nx cod_X7_programme cut_X7_programme K (n + 1) 100000 L st S = K 100000 L st S) := by
  repeat' apply And.intro
  all_goals (intros; rfl)
set_option maxRecDepth 100000 in
theorem mk_X7_programme {P P' : QT} {r : Option Value} {p0 : Int32} {p1 : Int32} {p2 : Int32} (body : ∀ E : En, CodOk E aW cod_X7_programme → Gd E aW 100000 [] r.toList P' → Gd E aW 0 [some (.ref 0), some (.int p0), some (.int p1), some (.int p2), none] [] P) : Con yX7_programme cX7_programme 5 (some .int) 2 aW [.ref 0, .int p0, .int p1, .int p2] P r P' :=
  Con.of (by decide) ((aW_len P').trans (aW_len P).symm) rfl (Nat.le_of_ble_eq_true rfl) (fun E F G hr => body E (okc_X7_programme F G) hr)
set_option maxRecDepth 10000 in
theorem con_X7_programme (S : ST) (M : MT) (fl : Bool) (z : Int32) (f : Int32) (t : Int32) (hp : S.inv 1 ∧ isN M.savedMany M.k 4) : Con yX7_programme cX7_programme 5 (some .int) 2 aW [.ref 0, .int z, .int f, .int t] (S, M, fl) (some (.int (if okProg7 S z f t = false then -1000001 else if S.Z.programmes < 8 then S.Z.programmes + 1 else -1000003))) ((if okProg7 S z f t = true ∧ S.Z.programmes < 8 then (S.sZ (S.Z.addP z f t), M.saveA S, fl) else (S, M, fl))) := by
  refine mk_X7_programme (fun E C hr => ?_)
  obtain ⟨hi, hs⟩ := hp
  have ho := hi.2.1.1
  obtain ⟨o1, o2, o3⟩ := id ho.2
  have h8 : (S.Z.programmes = 8) ↔ ¬ S.Z.programmes < 8 := by
    rw [o1, show (8 : Int32) = nI 8 from rfl, nI_eq (by omega) (by omega), nI_ltI (by omega) (by omega)]
    omega
  by_cases c1 : S.Z.has z = true
  · by_cases c2 : inR f 0 1439 = true
    · by_cases c3 : inR t 0 1439 = true
      · by_cases c4 : f = t
        · have hc : okProg7 S z f t = false := by unfold okProg7; rw [c1, c2, c3]; simp [c4]
          rw [if_pos hc, if_neg (fun z => by rw [hc] at z; cases z.1)] at hr
          (refine nx_ok C (cuts := cut_X7_programme) 1000 _ _ _ _ ?_; simp only [w_X7_programme, ops_eq, xst_eq, call_eq, oK_eq, Option.toList_some, Option.toList_none, List.cons_append, List.nil_append, List.length_cons, List.length_nil, true_and, and_true, Nat.reduceAdd, aW_F, aW_A, aW_P, aW_w, abs_eq, O_asti_eq, v170, cl_eq, ST_id, MT_gs, ST_gs, PT_gs, ZT_gs, NT_gs, ET_gs, se_X7_isZone, se_X7_in, sea_X7_save, bI_eq, inL_lit, c1, c2, c3, c4, ho])
          ((repeat' (with_reducible first | apply And.intro | intro _)) <;> first | (with_reducible assumption) | (with_reducible exact Nat.zero_le _) | contradiction | (simp only [Option.toList_none, Option.toList_some] at hr; with_reducible assumption) | (simp_all; done) | assumption)
        · have hc : okProg7 S z f t = true := by unfold okProg7; rw [c1, c2, c3]; simp [c4]
          rw [if_neg (by rw [hc]; decide)] at hr
          by_cases c5 : S.Z.programmes < 8
          · rw [if_pos c5, if_pos ⟨hc, c5⟩] at hr
            have hn : S.Z.m < 8 := by
              rw [o1, show (8 : Int32) = nI 8 from rfl, nI_ltI (by omega) (by omega)] at c5
              exact c5
            have c6 : ¬ S.Z.programmes = 8 := fun z => (h8.mp z) c5
            obtain ⟨a1, a2, a3, a4, a5, a6, a7, a8, a9⟩ := at_prog hn
            have a1 : (103 : Int32) + 3 * S.Z.programmes = nI (103 + 3 * S.Z.m) := by rw [o1]; exact a1
            have w1 := fun x => sn_wr S (M.saveA S) fl (103 + 3 * S.Z.m) x (by omega) (by omega) (by omega)
            have w2 := fun x => sn_wr (S.sZ (S.Z.sPzones (upd S.Z.pzones S.Z.m z))) (M.saveA S) fl (103 + 3 * S.Z.m + 1) x (by omega) (by omega) (by omega)
            have w3 := fun x => sn_wr (S.sZ ((S.Z.sPzones (upd S.Z.pzones S.Z.m z)).sOpening (upd S.Z.opening S.Z.m f))) (M.saveA S) fl (103 + 3 * S.Z.m + 2) x (by omega) (by omega) (by omega)
            simp only [wr_prog S hn] at w1
            simp only [wr_prog (S.sZ (S.Z.sPzones (upd S.Z.pzones S.Z.m z))) hn, ST_gs, ZT_gs] at w2
            simp only [wr_prog (S.sZ ((S.Z.sPzones (upd S.Z.pzones S.Z.m z)).sOpening (upd S.Z.opening S.Z.m f))) hn, ST_gs, ZT_gs] at w3
            have e : S.Z.addP z f t = (((S.Z.sPzones (upd S.Z.pzones S.Z.m z)).sOpening (upd S.Z.opening S.Z.m f)).sClosing (upd S.Z.closing S.Z.m t)).sProgrammes (S.Z.programmes + 1) := rfl
            rw [e] at hr
            clear e h8 o1 hi hc
            (refine nx_ok C (cuts := cut_X7_programme) 1000 _ _ _ _ ?_; simp only [w_X7_programme, ops_eq, xst_eq, call_eq, oK_eq, Option.toList_some, Option.toList_none, List.cons_append, List.nil_append, List.length_cons, List.length_nil, true_and, and_true, Nat.reduceAdd, aW_F, aW_A, aW_P, aW_w, abs_eq, O_asti_eq, v170, cl_eq, ST_id, MT_gs, ST_gs, PT_gs, ZT_gs, NT_gs, ET_gs, se_X7_isZone, se_X7_in, sea_X7_save, bI_eq, inL_lit, c1, c2, c3, c4, c6, ho, hs, a1, a2, a3, a4, a5, a6, a7, a8, a9, w1, w2, w3])
            ((repeat' (with_reducible first | apply And.intro | intro _)) <;> first | (with_reducible assumption) | (with_reducible exact Nat.zero_le _) | contradiction | (simp only [Option.toList_none, Option.toList_some] at hr; with_reducible assumption) | (simp_all; done) | assumption)
          · have c6 := h8.mpr c5
            rw [if_neg c5, if_neg (fun z => c5 z.2)] at hr
            (refine nx_ok C (cuts := cut_X7_programme) 1000 _ _ _ _ ?_; simp only [w_X7_programme, ops_eq, xst_eq, call_eq, oK_eq, Option.toList_some, Option.toList_none, List.cons_append, List.nil_append, List.length_cons, List.length_nil, true_and, and_true, Nat.reduceAdd, aW_F, aW_A, aW_P, aW_w, abs_eq, O_asti_eq, v170, cl_eq, ST_id, MT_gs, ST_gs, PT_gs, ZT_gs, NT_gs, ET_gs, se_X7_isZone, se_X7_in, sea_X7_save, bI_eq, inL_lit, c1, c2, c3, c4, c6, ho])
            ((repeat' (with_reducible first | apply And.intro | intro _)) <;> first | (with_reducible assumption) | (with_reducible exact Nat.zero_le _) | contradiction | (simp only [Option.toList_none, Option.toList_some] at hr; with_reducible assumption) | (simp_all; done) | assumption)
      · have c3 := bnot c3
        have hc : okProg7 S z f t = false := by unfold okProg7; rw [c1, c2, c3]; rfl
        rw [if_pos hc, if_neg (fun z => by rw [hc] at z; cases z.1)] at hr
        (refine nx_ok C (cuts := cut_X7_programme) 1000 _ _ _ _ ?_; simp only [w_X7_programme, ops_eq, xst_eq, call_eq, oK_eq, Option.toList_some, Option.toList_none, List.cons_append, List.nil_append, List.length_cons, List.length_nil, true_and, and_true, Nat.reduceAdd, aW_F, aW_A, aW_P, aW_w, abs_eq, O_asti_eq, v170, cl_eq, ST_id, MT_gs, ST_gs, PT_gs, ZT_gs, NT_gs, ET_gs, se_X7_isZone, se_X7_in, sea_X7_save, bI_eq, inL_lit, c1, c2, c3, ho])
        ((repeat' (with_reducible first | apply And.intro | intro _)) <;> first | (with_reducible assumption) | (with_reducible exact Nat.zero_le _) | contradiction | (simp only [Option.toList_none, Option.toList_some] at hr; with_reducible assumption) | (simp_all; done) | assumption)
    · have c2 := bnot c2
      have hc : okProg7 S z f t = false := by unfold okProg7; rw [c1, c2]; rfl
      rw [if_pos hc, if_neg (fun z => by rw [hc] at z; cases z.1)] at hr
      (refine nx_ok C (cuts := cut_X7_programme) 1000 _ _ _ _ ?_; simp only [w_X7_programme, ops_eq, xst_eq, call_eq, oK_eq, Option.toList_some, Option.toList_none, List.cons_append, List.nil_append, List.length_cons, List.length_nil, true_and, and_true, Nat.reduceAdd, aW_F, aW_A, aW_P, aW_w, abs_eq, O_asti_eq, v170, cl_eq, ST_id, MT_gs, ST_gs, PT_gs, ZT_gs, NT_gs, ET_gs, se_X7_isZone, se_X7_in, sea_X7_save, bI_eq, inL_lit, c1, c2, ho])
      ((repeat' (with_reducible first | apply And.intro | intro _)) <;> first | (with_reducible assumption) | (with_reducible exact Nat.zero_le _) | contradiction | (simp only [Option.toList_none, Option.toList_some] at hr; with_reducible assumption) | (simp_all; done) | assumption)
  · have c1 := bnot c1
    have hc : okProg7 S z f t = false := by unfold okProg7; rw [c1]; rfl
    rw [if_pos hc, if_neg (fun z => by rw [hc] at z; cases z.1)] at hr
    (refine nx_ok C (cuts := cut_X7_programme) 1000 _ _ _ _ ?_; simp only [w_X7_programme, ops_eq, xst_eq, call_eq, oK_eq, Option.toList_some, Option.toList_none, List.cons_append, List.nil_append, List.length_cons, List.length_nil, true_and, and_true, Nat.reduceAdd, aW_F, aW_A, aW_P, aW_w, abs_eq, O_asti_eq, v170, cl_eq, ST_id, MT_gs, ST_gs, PT_gs, ZT_gs, NT_gs, ET_gs, se_X7_isZone, se_X7_in, sea_X7_save, bI_eq, inL_lit, c1, ho])
    ((repeat' (with_reducible first | apply And.intro | intro _)) <;> first | (with_reducible assumption) | (with_reducible exact Nat.zero_le _) | contradiction | (simp only [Option.toList_none, Option.toList_some] at hr; with_reducible assumption) | (simp_all; done) | assumption)
def spc_X7_programme (S : ST) (M : MT) (fl : Bool) (z : Int32) (f : Int32) (t : Int32) (K : Option Value → QT → Prop) : Prop := (S.inv 1 ∧ isN M.savedMany M.k 4) ∧ K (some (.int (if okProg7 S z f t = false then -1000001 else if S.Z.programmes < 8 then S.Z.programmes + 1 else -1000003))) ((if okProg7 S z f t = true ∧ S.Z.programmes < 8 then (S.sZ (S.Z.addP z f t), M.saveA S, fl) else (S, M, fl)))
def sp_X7_programme : Sp QT := fun av q K => match av with
  | [.ref 0, .int z, .int f, .int t] => spc_X7_programme q.1 q.2.1 q.2.2 z f t K
  | _ => False
theorem se_X7_programme (S : ST) (M : MT) (fl : Bool) (z : Int32) (f : Int32) (t : Int32) (K : Option Value → QT → Prop) : sp_X7_programme [.ref 0, .int z, .int f, .int t] (S, M, fl) K = ((S.inv 1 ∧ isN M.savedMany M.k 4) ∧ K (some (.int (if okProg7 S z f t = false then -1000001 else if S.Z.programmes < 8 then S.Z.programmes + 1 else -1000003))) ((if okProg7 S z f t = true ∧ S.Z.programmes < 8 then (S.sZ (S.Z.addP z f t), M.saveA S, fl) else (S, M, fl)))) := rfl
theorem spok_X7_programme : SpOk yX7_programme cX7_programme 5 (some .int) 2 aW sp_X7_programme := by
  intro av q K h
  unfold sp_X7_programme at h
  split at h
  · rename_i z f t; refine ⟨_, _, ?_, con_X7_programme q.1 q.2.1 q.2.2 z f t h.1, h.2⟩; trivial
  · exact h.elim
def passM (S : ST) (M : MT) (m : Int32) : MT := (M.saveA S).sSeen (sawN S (M.saveA S).seen m.toNatClampNeg)
theorem pfault_ok {S : ST} {m : Int32} (h : pfault S m = 0) : inR m 1 240 = true ∧ ¬ 20000 < S.time + m := by
  unfold pfault at h
  by_cases c : inR m 1 240 = false
  · rw [if_pos c] at h
    exact absurd h (by decide)
  · rw [if_neg c] at h
    by_cases d : 20000 < S.time + m
    · rw [if_pos d] at h
      exact absurd h (by decide)
    · exact ⟨by cases z : inR m 1 240 <;> simp_all, d⟩
def cod_X7_pass : List (Nat × Op QT) := [(0, O_aload 0 1), (1, O_iload 1 1), (2, O_callV 1 0 (fun S => S) (fun _ S' => S') sp_X7_passFault), (5, O_istore 2 1), (6, O_iload 2 1), (7, O_if_eq 12), (10, O_iload 2 1), (11, O_iret), (12, O_aload 0 1), (13, O_callV 0 0 (fun S => S) (fun _ S' => S') spa_X7_save), (16, O_aload 0 1), (17, O_iload 1 1), (18, O_callV 1 0 (fun S => S) (fun _ S' => S') sp_X7_minutes), (21, O_aload 0 1), (22, O_getf aW 7 0), (25, O_int 0 1), (26, O_ald aW 0), (27, O_iret)]
abbrev cut_X7_pass : List Nat := []
set_option maxRecDepth 100000 in
theorem okc_X7_pass {E : En} (F : Fx E RX7 cX7_pass 3 8) (G : Fr E (some .int)) : CodOk E aW cod_X7_pass := by
  unfold CodOk cod_X7_pass
  refine List.forall_mem_cons.mpr ⟨ok_aload_n F dX7_pass_0 rfl (by decide), ?_⟩
  refine List.forall_mem_cons.mpr ⟨ok_iload_n F dX7_pass_1 rfl (by decide), ?_⟩
  refine List.forall_mem_cons.mpr ⟨ok_callV F spok_X7_passFault (ln_id aW) rcv_aW (by decide +kernel) (by decide) dX7_pass_2 (by decide), ?_⟩
  refine List.forall_mem_cons.mpr ⟨ok_istore_n F dX7_pass_5 rfl (by decide) (by decide), ?_⟩
  refine List.forall_mem_cons.mpr ⟨ok_iload_n F dX7_pass_6 rfl (by decide), ?_⟩
  refine List.forall_mem_cons.mpr ⟨ok_if_eq F dX7_pass_7 (by decide) (by decide) (by decide), ?_⟩
  refine List.forall_mem_cons.mpr ⟨ok_iload_n F dX7_pass_10 rfl (by decide), ?_⟩
  refine List.forall_mem_cons.mpr ⟨ok_iret F G dX7_pass_11 (by decide), ?_⟩
  refine List.forall_mem_cons.mpr ⟨ok_aload_n F dX7_pass_12 rfl (by decide), ?_⟩
  refine List.forall_mem_cons.mpr ⟨ok_callV F spoka_X7_save (ln_id aW) rcv_aW (by decide +kernel) (by decide) dX7_pass_13 (by decide), ?_⟩
  refine List.forall_mem_cons.mpr ⟨ok_aload_n F dX7_pass_16 rfl (by decide), ?_⟩
  refine List.forall_mem_cons.mpr ⟨ok_iload_n F dX7_pass_17 rfl (by decide), ?_⟩
  refine List.forall_mem_cons.mpr ⟨ok_callV F spok_X7_minutes (ln_id aW) rcv_aW (by decide +kernel) (by decide) dX7_pass_18 (by decide), ?_⟩
  refine List.forall_mem_cons.mpr ⟨ok_aload_n F dX7_pass_21 rfl (by decide), ?_⟩
  refine List.forall_mem_cons.mpr ⟨ok_getf F flX7_7 dX7_pass_22 (by decide), ?_⟩
  refine List.forall_mem_cons.mpr ⟨ok_iconst F dX7_pass_25 (by decide) (by decide), ?_⟩
  refine List.forall_mem_cons.mpr ⟨ok_iald F dX7_pass_26 (by decide), ?_⟩
  refine List.forall_mem_cons.mpr ⟨ok_iret F G dX7_pass_27 (by decide), ?_⟩
  exact fun _ h => absurd h List.not_mem_nil
set_option maxRecDepth 100000 in
theorem w_X7_pass : (∀ (K : Kt QT) (n : Nat) (L : xL) (st : List Value) (S : QT), nx cod_X7_pass cut_X7_pass K (n + 1) 0 L st S = (O_aload 0 1) (nx cod_X7_pass cut_X7_pass K n) 0 L st S) ∧
  (∀ (K : Kt QT) (n : Nat) (L : xL) (st : List Value) (S : QT), nx cod_X7_pass cut_X7_pass K (n + 1) 1 L st S = (O_iload 1 1) (nx cod_X7_pass cut_X7_pass K n) 1 L st S) ∧
  (∀ (K : Kt QT) (n : Nat) (L : xL) (st : List Value) (S : QT), nx cod_X7_pass cut_X7_pass K (n + 1) 2 L st S = (O_callV 1 0 (fun S => S) (fun _ S' => S') sp_X7_passFault) (nx cod_X7_pass cut_X7_pass K n) 2 L st S) ∧
  (∀ (K : Kt QT) (n : Nat) (L : xL) (st : List Value) (S : QT), nx cod_X7_pass cut_X7_pass K (n + 1) 5 L st S = (O_istore 2 1) (nx cod_X7_pass cut_X7_pass K n) 5 L st S) ∧
  (∀ (K : Kt QT) (n : Nat) (L : xL) (st : List Value) (S : QT), nx cod_X7_pass cut_X7_pass K (n + 1) 6 L st S = (O_iload 2 1) (nx cod_X7_pass cut_X7_pass K n) 6 L st S) ∧
  (∀ (K : Kt QT) (n : Nat) (L : xL) (st : List Value) (S : QT), nx cod_X7_pass cut_X7_pass K (n + 1) 7 L st S = (O_if_eq 12) (nx cod_X7_pass cut_X7_pass K n) 7 L st S) ∧
  (∀ (K : Kt QT) (n : Nat) (L : xL) (st : List Value) (S : QT), nx cod_X7_pass cut_X7_pass K (n + 1) 10 L st S = (O_iload 2 1) (nx cod_X7_pass cut_X7_pass K n) 10 L st S) ∧
  (∀ (K : Kt QT) (n : Nat) (L : xL) (st : List Value) (S : QT), nx cod_X7_pass cut_X7_pass K (n + 1) 11 L st S = (O_iret) (nx cod_X7_pass cut_X7_pass K n) 11 L st S) ∧
  (∀ (K : Kt QT) (n : Nat) (L : xL) (st : List Value) (S : QT), nx cod_X7_pass cut_X7_pass K (n + 1) 12 L st S = (O_aload 0 1) (nx cod_X7_pass cut_X7_pass K n) 12 L st S) ∧
  (∀ (K : Kt QT) (n : Nat) (L : xL) (st : List Value) (S : QT), nx cod_X7_pass cut_X7_pass K (n + 1) 13 L st S = (O_callV 0 0 (fun S => S) (fun _ S' => S') spa_X7_save) (nx cod_X7_pass cut_X7_pass K n) 13 L st S) ∧
  (∀ (K : Kt QT) (n : Nat) (L : xL) (st : List Value) (S : QT), nx cod_X7_pass cut_X7_pass K (n + 1) 16 L st S = (O_aload 0 1) (nx cod_X7_pass cut_X7_pass K n) 16 L st S) ∧
  (∀ (K : Kt QT) (n : Nat) (L : xL) (st : List Value) (S : QT), nx cod_X7_pass cut_X7_pass K (n + 1) 17 L st S = (O_iload 1 1) (nx cod_X7_pass cut_X7_pass K n) 17 L st S) ∧
  (∀ (K : Kt QT) (n : Nat) (L : xL) (st : List Value) (S : QT), nx cod_X7_pass cut_X7_pass K (n + 1) 18 L st S = (O_callV 1 0 (fun S => S) (fun _ S' => S') sp_X7_minutes) (nx cod_X7_pass cut_X7_pass K n) 18 L st S) ∧
  (∀ (K : Kt QT) (n : Nat) (L : xL) (st : List Value) (S : QT), nx cod_X7_pass cut_X7_pass K (n + 1) 21 L st S = (O_aload 0 1) (nx cod_X7_pass cut_X7_pass K n) 21 L st S) ∧
  (∀ (K : Kt QT) (n : Nat) (L : xL) (st : List Value) (S : QT), nx cod_X7_pass cut_X7_pass K (n + 1) 22 L st S = (O_getf aW 7 0) (nx cod_X7_pass cut_X7_pass K n) 22 L st S) ∧
  (∀ (K : Kt QT) (n : Nat) (L : xL) (st : List Value) (S : QT), nx cod_X7_pass cut_X7_pass K (n + 1) 25 L st S = (O_int 0 1) (nx cod_X7_pass cut_X7_pass K n) 25 L st S) ∧
  (∀ (K : Kt QT) (n : Nat) (L : xL) (st : List Value) (S : QT), nx cod_X7_pass cut_X7_pass K (n + 1) 26 L st S = (O_ald aW 0) (nx cod_X7_pass cut_X7_pass K n) 26 L st S) ∧
  (∀ (K : Kt QT) (n : Nat) (L : xL) (st : List Value) (S : QT), nx cod_X7_pass cut_X7_pass K (n + 1) 27 L st S = (O_iret) (nx cod_X7_pass cut_X7_pass K n) 27 L st S) ∧
  (∀ (K : Kt QT) (n : Nat) (L : xL) (st : List Value) (S : QT), nx cod_X7_pass cut_X7_pass K (n + 1) 100000 L st S = K 100000 L st S) := by
  repeat' apply And.intro
  all_goals (intros; rfl)
set_option maxRecDepth 100000 in
theorem mk_X7_pass {P P' : QT} {r : Option Value} {p0 : Int32} (body : ∀ E : En, CodOk E aW cod_X7_pass → Gd E aW 100000 [] r.toList P' → Gd E aW 0 [some (.ref 0), some (.int p0), none] [] P) : Con yX7_pass cX7_pass 3 (some .int) 8 aW [.ref 0, .int p0] P r P' :=
  Con.of (by decide) ((aW_len P').trans (aW_len P).symm) rfl (Nat.le_of_ble_eq_true rfl) (fun E F G hr => body E (okc_X7_pass F G) hr)
set_option maxRecDepth 10000 in
theorem con_X7_pass (S : ST) (M : MT) (fl : Bool) (m : Int32) (hp : S.inv 40000 ∧ isN M.savedMany M.k 4 ∧ fl = false) : Con yX7_pass cX7_pass 3 (some .int) 8 aW [.ref 0, .int m] (S, M, fl) (some (.int (if pfault S m = 0 then (S.mins m.toNatClampNeg).time else pfault S m))) ((if pfault S m = 0 then (S.mins m.toNatClampNeg, passM S M m, false) else (S, M, fl))) := by
  refine mk_X7_pass (fun E C hr => ?_)
  obtain ⟨hi, hs, rfl⟩ := hp
  by_cases c : pfault S m = 0
  · rw [if_pos c, if_pos c] at hr
    obtain ⟨d1, d2⟩ := pfault_ok c
    obtain ⟨hn1, hn2⟩ := inR_cl (b := 240) d1 (by omega)
    have hi3 := ST.inv_le hi (m := 30000) (by omega)
    have hn3 : m.toNatClampNeg ≤ 1440 := by omega
    unfold passM at hr
    (refine nx_ok C (cuts := cut_X7_pass) 1000 _ _ _ _ ?_; simp only [w_X7_pass, ops_eq, xst_eq, call_eq, oK_eq, Option.toList_some, Option.toList_none, List.cons_append, List.nil_append, List.length_cons, List.length_nil, true_and, and_true, Nat.reduceAdd, aW_F, aW_A, aW_P, aW_w, abs_eq, O_asti_eq, v170, cl_eq, ST_id, MT_gs, ST_gs, PT_gs, ZT_gs, NT_gs, ET_gs, se_X7_passFault, sea_X7_save, se_X7_minutes, c, hs, hi3, hn1.symm, hn3])
    ((repeat' (with_reducible first | apply And.intro | intro _)) <;> first | (with_reducible assumption) | (with_reducible exact Nat.zero_le _) | contradiction | (simp only [Option.toList_none, Option.toList_some] at hr; with_reducible assumption) | (simp_all; done) | assumption)
  · rw [if_neg c, if_neg c] at hr
    (refine nx_ok C (cuts := cut_X7_pass) 1000 _ _ _ _ ?_; simp only [w_X7_pass, ops_eq, xst_eq, call_eq, oK_eq, Option.toList_some, Option.toList_none, List.cons_append, List.nil_append, List.length_cons, List.length_nil, true_and, and_true, Nat.reduceAdd, aW_F, aW_A, aW_P, aW_w, abs_eq, O_asti_eq, v170, cl_eq, ST_id, MT_gs, ST_gs, PT_gs, ZT_gs, NT_gs, ET_gs, se_X7_passFault, sea_X7_save, se_X7_minutes, c])
    ((repeat' (with_reducible first | apply And.intro | intro _)) <;> first | (with_reducible assumption) | (with_reducible exact Nat.zero_le _) | contradiction | (simp only [Option.toList_none, Option.toList_some] at hr; with_reducible assumption) | (simp_all; done) | assumption)
def spc_X7_pass (S : ST) (M : MT) (fl : Bool) (m : Int32) (K : Option Value → QT → Prop) : Prop := (S.inv 40000 ∧ isN M.savedMany M.k 4 ∧ fl = false) ∧ K (some (.int (if pfault S m = 0 then (S.mins m.toNatClampNeg).time else pfault S m))) ((if pfault S m = 0 then (S.mins m.toNatClampNeg, passM S M m, false) else (S, M, fl)))
def sp_X7_pass : Sp QT := fun av q K => match av with
  | [.ref 0, .int m] => spc_X7_pass q.1 q.2.1 q.2.2 m K
  | _ => False
theorem se_X7_pass (S : ST) (M : MT) (fl : Bool) (m : Int32) (K : Option Value → QT → Prop) : sp_X7_pass [.ref 0, .int m] (S, M, fl) K = ((S.inv 40000 ∧ isN M.savedMany M.k 4 ∧ fl = false) ∧ K (some (.int (if pfault S m = 0 then (S.mins m.toNatClampNeg).time else pfault S m))) ((if pfault S m = 0 then (S.mins m.toNatClampNeg, passM S M m, false) else (S, M, fl)))) := rfl
theorem spok_X7_pass : SpOk yX7_pass cX7_pass 3 (some .int) 8 aW sp_X7_pass := by
  intro av q K h
  unfold sp_X7_pass at h
  split at h
  · rename_i m; refine ⟨_, _, ?_, con_X7_pass q.1 q.2.1 q.2.2 m h.1, h.2⟩; trivial
  · exact h.elim
theorem cona_X7_undo (S : ST) (M : MT) (S0 : ST) (h : isN M.savedMany M.k 4) (h0 : ¬ M.k = 0 → ∀ i, i < 170 → M.saved (170 * (M.k - 1) + i) = abs S0 i) : Con yX7_undo cX7_undo 2 (some .int) 0 aW [.ref 0] (S, M, false) (some (.int (if M.k = 0 then -1000002 else nI (M.k - 1)))) (if M.k = 0 then (S, M, false) else (S0, M.sSavedMany (nI (M.k - 1)), false)) := by
  refine (con_X7_undo ((M.sAll (abs S)).sSeen (sn (S, M, false))) h).re (toW' := aW) (Q := (S, M, false)) (Q' := if M.k = 0 then (S, M, false) else (S0, M.sSavedMany (nI (M.k - 1)), false)) rfl ?_
  have hk : ((M.sAll (abs S)).sSeen (sn (S, M, false))).k = M.k := rfl
  rw [hk]
  by_cases c : M.k = 0
  · rw [if_pos c, if_pos c]
    rfl
  · rw [if_neg c, if_neg c]
    have e : cp 0 (170 * (M.k - 1)) M.saved (abs S) 170 = abs S0 := by
      funext i
      rw [cp_at]
      by_cases d : i < 170
      · rw [if_pos (by omega), show 170 * (M.k - 1) + (i - 0) = 170 * (M.k - 1) + i by omega, h0 c i d]
      · rw [if_neg (by omega), abs_out S d, abs_out S0 d]
    show mW ((((M.sAll (abs S)).sSeen M.seen).sSavedMany (nI (M.k - 1))).sAll (cp 0 (170 * (M.k - 1)) M.saved (abs S) 170)) = _
    rw [e]
    rfl
theorem cona_X7_type (S : ST) (M : MT) (fl : Bool) (c : Int32) (h : isN M.textLong M.tn 60) : Con yX7_type cX7_type 2 (some .int) 1 aW [.ref 0, .int c] (S, M, fl) (some (.int (if inR c 32 126 = false then -1000001 else if M.tn = 60 then -1000003 else nI (M.tn + 1)))) (if inR c 32 126 = false ∨ M.tn = 60 then (S, M, fl) else (S, (M.sText (upd M.text M.tn c)).sTextLong (nI (M.tn + 1)), fl)) := by
  refine (con_X7_type ((M.sAll (abs S)).sSeen (sn (S, M, fl))) c h).re (toW' := aW) (Q := (S, M, fl)) (Q' := if inR c 32 126 = false ∨ M.tn = 60 then (S, M, fl) else (S, (M.sText (upd M.text M.tn c)).sTextLong (nI (M.tn + 1)), fl)) rfl ?_
  have hk : ((M.sAll (abs S)).sSeen (sn (S, M, fl))).tn = M.tn := rfl
  rw [hk]
  by_cases d : inR c 32 126 = false ∨ M.tn = 60
  · rw [if_pos d, if_pos d]
    rfl
  · rw [if_neg d, if_neg d]
    rfl
theorem cona_X7_clearText (S : ST) (M : MT) (fl : Bool) : Con yX7_clearText cX7_clearText 2 (some .int) 0 aW [.ref 0] (S, M, fl) (some (.int M.textLong)) (S, M.sTextLong 0, fl) := (con_X7_clearText ((M.sAll (abs S)).sSeen (sn (S, M, fl)))).re (toW' := aW) (Q := (S, M, fl)) (Q' := (S, M.sTextLong 0, fl)) rfl rfl
