/-! ===== the reference: zones, water ===== -/
theorem at_zone {z : Int32} (hz : vp_in z 8) : ∃ i, i < 8 ∧ z = nI i ∧ z.toNatClampNeg = i ∧ vp_in (87 + 2 * z) 170 ∧ (87 + 2 * z).toNatClampNeg = 87 + 2 * i ∧ vp_in (87 + 2 * z + 1) 170 ∧ (87 + 2 * z + 1).toNatClampNeg = 87 + 2 * i + 1 := by
  obtain ⟨i, hi, rfl⟩ := vp_in_of hz (by omega)
  have e : (87 : Int32) + 2 * nI i = nI (87 + 2 * i) := by
    rw [show (87 : Int32) = nI 87 from rfl, show (2 : Int32) = nI 2 from rfl, pk_mul, nI_add]
  refine ⟨i, hi, rfl, nI_clamp (by omega), ?_, ?_, ?_, ?_⟩
  · rw [e]; exact vp_in_nI (by omega) (by omega)
  · rw [e]; exact nI_clamp (by omega)
  · rw [e, nI_1]; exact vp_in_nI (by omega) (by omega)
  · rw [e, nI_1]; exact nI_clamp (by omega)
theorem abs_zone (S : ST) {i : Nat} (hi : i < 8) : abs S (87 + 2 * i) = S.Z.demands i ∧ abs S (87 + 2 * i + 1) = S.Z.isOpen i := by
  unfold abs blk
  rw [if_neg (by omega), if_neg (by omega), if_neg (by omega), if_pos (by omega), if_neg (by omega), if_neg (by omega), if_neg (by omega), if_pos (by omega)]
  unfold ZT.row
  rw [if_pos (by omega), if_neg (by omega), show (87 + 2 * i - 87) / 2 = i by omega, show (87 + 2 * i + 1 - 87) / 2 = i by omega]
  exact ⟨rfl, rfl⟩
theorem wr_zone (S : ST) {i : Nat} (hi : i < 8) (x : Int32) : wr S (87 + 2 * i) x = S.sZ (S.Z.sDemands (upd S.Z.demands i x)) ∧ wr S (87 + 2 * i + 1) x = S.sZ (S.Z.sIsOpen (upd S.Z.isOpen i x)) := by
  unfold wr
  rw [if_neg (by omega), if_neg (by omega), if_neg (by omega), if_pos (by omega), if_neg (by omega), if_neg (by omega), if_neg (by omega), if_pos (by omega)]
  unfold ZT.zput
  rw [if_pos (by omega), if_neg (by omega), show (87 + 2 * i - 87) / 2 = i by omega, show (87 + 2 * i + 1 - 87) / 2 = i by omega]
  exact ⟨rfl, rfl⟩
theorem at_prog {k : Nat} (hk : k < 8) : (103 : Int32) + 3 * nI k = nI (103 + 3 * k) ∧ nI (103 + 3 * k) + 1 = nI (103 + 3 * k + 1) ∧ nI (103 + 3 * k) + 2 = nI (103 + 3 * k + 2) ∧ vp_in (nI (103 + 3 * k)) 170 ∧ vp_in (nI (103 + 3 * k + 1)) 170 ∧ vp_in (nI (103 + 3 * k + 2)) 170 ∧ (nI (103 + 3 * k)).toNatClampNeg = 103 + 3 * k ∧ (nI (103 + 3 * k + 1)).toNatClampNeg = 103 + 3 * k + 1 ∧ (nI (103 + 3 * k + 2)).toNatClampNeg = 103 + 3 * k + 2 := by
  refine ⟨?_, nI_1 _, ?_, vp_in_nI (by omega) (by omega), vp_in_nI (by omega) (by omega), vp_in_nI (by omega) (by omega), nI_clamp (by omega), nI_clamp (by omega), nI_clamp (by omega)⟩
  · rw [show (103 : Int32) = nI 103 from rfl, show (3 : Int32) = nI 3 from rfl, pk_mul, nI_add]
  · rw [show (2 : Int32) = nI 2 from rfl, nI_add]
theorem abs_prog (S : ST) {k : Nat} (hk : k < 8) : abs S (103 + 3 * k) = S.Z.pzones k ∧ abs S (103 + 3 * k + 1) = S.Z.opening k ∧ abs S (103 + 3 * k + 2) = S.Z.closing k := by
  have h : ∀ w, w < 3 → abs S (103 + 3 * k + w) = S.Z.prg (3 * k + w) := fun w hw => by
    unfold abs blk
    rw [if_neg (by omega), if_neg (by omega), if_neg (by omega), if_neg (by omega), if_pos (by omega), show 103 + 3 * k + w - 103 = 3 * k + w by omega]
  have h0 := h 0 (by omega)
  rw [Nat.add_zero] at h0
  rw [h0, h 1 (by omega), h 2 (by omega)]
  unfold ZT.prg
  refine ⟨?_, ?_, ?_⟩
  · rw [if_pos (by omega), show (3 * k + 0) / 3 = k by omega]
  · rw [if_neg (by omega), if_pos (by omega), show (3 * k + 1) / 3 = k by omega]
  · rw [if_neg (by omega), if_neg (by omega), show (3 * k + 2) / 3 = k by omega]
theorem wr_prog (S : ST) {k : Nat} (hk : k < 8) (x : Int32) : wr S (103 + 3 * k) x = S.sZ (S.Z.sPzones (upd S.Z.pzones k x)) ∧ wr S (103 + 3 * k + 1) x = S.sZ (S.Z.sOpening (upd S.Z.opening k x)) ∧ wr S (103 + 3 * k + 2) x = S.sZ (S.Z.sClosing (upd S.Z.closing k x)) := by
  have h : ∀ w, w < 3 → wr S (103 + 3 * k + w) x = S.sZ (S.Z.pput w k x) := fun w hw => by
    unfold wr
    rw [if_neg (by omega), if_neg (by omega), if_neg (by omega), if_neg (by omega), if_pos (by omega), show (103 + 3 * k + w - 103) % 3 = w by omega, show (103 + 3 * k + w - 103) / 3 = k by omega]
  have h0 := h 0 (by omega)
  rw [Nat.add_zero] at h0
  exact ⟨h0, h 1 (by omega), h 2 (by omega)⟩
theorem isOp_eq {S : ZT} (h : S.bits) {i : Nat} (hi : i < 8) : S.isOp i = decide (S.isOpen i = 1) := by
  unfold ZT.isOp
  rcases h i hi with q | q <;> rw [q] <;> decide
def cod_X7_isOpen : List (Nat × Op QT) := [(0, O_aload 0 1), (1, O_getf aW 7 0), (4, O_int 87 2), (6, O_int 2 1), (7, O_iload 1 1), (8, O_imul), (9, O_iadd), (10, O_int 1 1), (11, O_iadd), (12, O_ald aW 0), (13, O_int 1 1), (14, O_icmp_ne 21), (17, O_int 1 1), (18, O_goto 22), (21, O_int 0 1), (22, O_zret)]
abbrev cut_X7_isOpen : List Nat := []
set_option maxRecDepth 100000 in
theorem okc_X7_isOpen {E : En} (F : Fx E RX7 cX7_isOpen 2 0) (G : Fr E (some .boolean)) : CodOk E aW cod_X7_isOpen := by
  unfold CodOk cod_X7_isOpen
  refine List.forall_mem_cons.mpr ⟨ok_aload_n F dX7_isOpen_0 rfl (by decide), ?_⟩
  refine List.forall_mem_cons.mpr ⟨ok_getf F flX7_7 dX7_isOpen_1 (by decide), ?_⟩
  refine List.forall_mem_cons.mpr ⟨ok_bipush F dX7_isOpen_4 (by decide) (by decide), ?_⟩
  refine List.forall_mem_cons.mpr ⟨ok_iconst F dX7_isOpen_6 (by decide) (by decide), ?_⟩
  refine List.forall_mem_cons.mpr ⟨ok_iload_n F dX7_isOpen_7 rfl (by decide), ?_⟩
  refine List.forall_mem_cons.mpr ⟨ok_imul F dX7_isOpen_8 (by decide), ?_⟩
  refine List.forall_mem_cons.mpr ⟨ok_iadd F dX7_isOpen_9 (by decide), ?_⟩
  refine List.forall_mem_cons.mpr ⟨ok_iconst F dX7_isOpen_10 (by decide) (by decide), ?_⟩
  refine List.forall_mem_cons.mpr ⟨ok_iadd F dX7_isOpen_11 (by decide), ?_⟩
  refine List.forall_mem_cons.mpr ⟨ok_iald F dX7_isOpen_12 (by decide), ?_⟩
  refine List.forall_mem_cons.mpr ⟨ok_iconst F dX7_isOpen_13 (by decide) (by decide), ?_⟩
  refine List.forall_mem_cons.mpr ⟨ok_icmp_ne F dX7_isOpen_14 (by decide) (by decide) (by decide), ?_⟩
  refine List.forall_mem_cons.mpr ⟨ok_iconst F dX7_isOpen_17 (by decide) (by decide), ?_⟩
  refine List.forall_mem_cons.mpr ⟨ok_goto F dX7_isOpen_18 (by decide) (by decide) (by decide), ?_⟩
  refine List.forall_mem_cons.mpr ⟨ok_iconst F dX7_isOpen_21 (by decide) (by decide), ?_⟩
  refine List.forall_mem_cons.mpr ⟨ok_zret F G dX7_isOpen_22 (by decide), ?_⟩
  exact fun _ h => absurd h List.not_mem_nil
set_option maxRecDepth 100000 in
theorem w_X7_isOpen : (∀ (K : Kt QT) (n : Nat) (L : xL) (st : List Value) (S : QT), nx cod_X7_isOpen cut_X7_isOpen K (n + 1) 0 L st S = (O_aload 0 1) (nx cod_X7_isOpen cut_X7_isOpen K n) 0 L st S) ∧
  (∀ (K : Kt QT) (n : Nat) (L : xL) (st : List Value) (S : QT), nx cod_X7_isOpen cut_X7_isOpen K (n + 1) 1 L st S = (O_getf aW 7 0) (nx cod_X7_isOpen cut_X7_isOpen K n) 1 L st S) ∧
  (∀ (K : Kt QT) (n : Nat) (L : xL) (st : List Value) (S : QT), nx cod_X7_isOpen cut_X7_isOpen K (n + 1) 4 L st S = (O_int 87 2) (nx cod_X7_isOpen cut_X7_isOpen K n) 4 L st S) ∧
  (∀ (K : Kt QT) (n : Nat) (L : xL) (st : List Value) (S : QT), nx cod_X7_isOpen cut_X7_isOpen K (n + 1) 6 L st S = (O_int 2 1) (nx cod_X7_isOpen cut_X7_isOpen K n) 6 L st S) ∧
  (∀ (K : Kt QT) (n : Nat) (L : xL) (st : List Value) (S : QT), nx cod_X7_isOpen cut_X7_isOpen K (n + 1) 7 L st S = (O_iload 1 1) (nx cod_X7_isOpen cut_X7_isOpen K n) 7 L st S) ∧
  (∀ (K : Kt QT) (n : Nat) (L : xL) (st : List Value) (S : QT), nx cod_X7_isOpen cut_X7_isOpen K (n + 1) 8 L st S = (O_imul) (nx cod_X7_isOpen cut_X7_isOpen K n) 8 L st S) ∧
  (∀ (K : Kt QT) (n : Nat) (L : xL) (st : List Value) (S : QT), nx cod_X7_isOpen cut_X7_isOpen K (n + 1) 9 L st S = (O_iadd) (nx cod_X7_isOpen cut_X7_isOpen K n) 9 L st S) ∧
  (∀ (K : Kt QT) (n : Nat) (L : xL) (st : List Value) (S : QT), nx cod_X7_isOpen cut_X7_isOpen K (n + 1) 10 L st S = (O_int 1 1) (nx cod_X7_isOpen cut_X7_isOpen K n) 10 L st S) ∧
  (∀ (K : Kt QT) (n : Nat) (L : xL) (st : List Value) (S : QT), nx cod_X7_isOpen cut_X7_isOpen K (n + 1) 11 L st S = (O_iadd) (nx cod_X7_isOpen cut_X7_isOpen K n) 11 L st S) ∧
  (∀ (K : Kt QT) (n : Nat) (L : xL) (st : List Value) (S : QT), nx cod_X7_isOpen cut_X7_isOpen K (n + 1) 12 L st S = (O_ald aW 0) (nx cod_X7_isOpen cut_X7_isOpen K n) 12 L st S) ∧
  (∀ (K : Kt QT) (n : Nat) (L : xL) (st : List Value) (S : QT), nx cod_X7_isOpen cut_X7_isOpen K (n + 1) 13 L st S = (O_int 1 1) (nx cod_X7_isOpen cut_X7_isOpen K n) 13 L st S) ∧
  (∀ (K : Kt QT) (n : Nat) (L : xL) (st : List Value) (S : QT), nx cod_X7_isOpen cut_X7_isOpen K (n + 1) 14 L st S = (O_icmp_ne 21) (nx cod_X7_isOpen cut_X7_isOpen K n) 14 L st S) ∧
  (∀ (K : Kt QT) (n : Nat) (L : xL) (st : List Value) (S : QT), nx cod_X7_isOpen cut_X7_isOpen K (n + 1) 17 L st S = (O_int 1 1) (nx cod_X7_isOpen cut_X7_isOpen K n) 17 L st S) ∧
  (∀ (K : Kt QT) (n : Nat) (L : xL) (st : List Value) (S : QT), nx cod_X7_isOpen cut_X7_isOpen K (n + 1) 18 L st S = (O_goto 22) (nx cod_X7_isOpen cut_X7_isOpen K n) 18 L st S) ∧
  (∀ (K : Kt QT) (n : Nat) (L : xL) (st : List Value) (S : QT), nx cod_X7_isOpen cut_X7_isOpen K (n + 1) 21 L st S = (O_int 0 1) (nx cod_X7_isOpen cut_X7_isOpen K n) 21 L st S) ∧
  (∀ (K : Kt QT) (n : Nat) (L : xL) (st : List Value) (S : QT), nx cod_X7_isOpen cut_X7_isOpen K (n + 1) 22 L st S = (O_zret) (nx cod_X7_isOpen cut_X7_isOpen K n) 22 L st S) ∧
  (∀ (K : Kt QT) (n : Nat) (L : xL) (st : List Value) (S : QT), nx cod_X7_isOpen cut_X7_isOpen K (n + 1) 100000 L st S = K 100000 L st S) := by
  repeat' apply And.intro
  all_goals (intros; rfl)
set_option maxRecDepth 100000 in
theorem mk_X7_isOpen {P P' : QT} {r : Option Value} {p0 : Int32} (body : ∀ E : En, CodOk E aW cod_X7_isOpen → Gd E aW 100000 [] r.toList P' → Gd E aW 0 [some (.ref 0), some (.int p0)] [] P) : Con yX7_isOpen cX7_isOpen 2 (some .boolean) 0 aW [.ref 0, .int p0] P r P' :=
  Con.of (by decide) ((aW_len P').trans (aW_len P).symm) rfl (Nat.le_of_ble_eq_true rfl) (fun E F G hr => body E (okc_X7_isOpen F G) hr)
set_option maxRecDepth 10000 in
theorem con_X7_isOpen (S : ST) (M : MT) (fl : Bool) (z : Int32) (hp : vp_in z 8 ∧ S.Z.bits) : Con yX7_isOpen cX7_isOpen 2 (some .boolean) 0 aW [.ref 0, .int z] (S, M, fl) (some (.int (bI (S.Z.isOp z.toNatClampNeg)))) ((S, M, fl)) := by
  refine mk_X7_isOpen (fun E C hr => ?_)
  obtain ⟨i, hi, ez, e1, e2, e3, e4, e5⟩ := at_zone hp.1
  have e6 := abs_zone S hi
  rw [e1, isOp_eq hp.2 hi] at hr
  clear hp ez
  (refine nx_ok C (cuts := cut_X7_isOpen) 1000 _ _ _ _ ?_; simp only [w_X7_isOpen, ops_eq, xst_eq, call_eq, oK_eq, Option.toList_some, Option.toList_none, List.cons_append, List.nil_append, List.length_cons, List.length_nil, true_and, and_true, Nat.reduceAdd, aW_F, aW_A, aW_P, aW_w, abs_eq, O_asti_eq, v170, cl_eq, ST_id, MT_gs, ST_gs, PT_gs, ZT_gs, NT_gs, ET_gs, bI_eq, e2, e3, e4, e5, e6])
  ((repeat' (with_reducible first | apply And.intro | intro _)) <;> simp_all [bI, ST_id, MT_gs, ST_gs, PT_gs, ZT_gs, NT_gs, ET_gs])
def spc_X7_isOpen (S : ST) (M : MT) (fl : Bool) (z : Int32) (K : Option Value → QT → Prop) : Prop := (vp_in z 8 ∧ S.Z.bits) ∧ K (some (.int (bI (S.Z.isOp z.toNatClampNeg)))) ((S, M, fl))
def sp_X7_isOpen : Sp QT := fun av q K => match av with
  | [.ref 0, .int z] => spc_X7_isOpen q.1 q.2.1 q.2.2 z K
  | _ => False
theorem se_X7_isOpen (S : ST) (M : MT) (fl : Bool) (z : Int32) (K : Option Value → QT → Prop) : sp_X7_isOpen [.ref 0, .int z] (S, M, fl) K = ((vp_in z 8 ∧ S.Z.bits) ∧ K (some (.int (bI (S.Z.isOp z.toNatClampNeg)))) ((S, M, fl))) := rfl
theorem spok_X7_isOpen : SpOk yX7_isOpen cX7_isOpen 2 (some .boolean) 0 aW sp_X7_isOpen := by
  intro av q K h
  unfold sp_X7_isOpen at h
  split at h
  · rename_i z; refine ⟨_, _, ?_, con_X7_isOpen q.1 q.2.1 q.2.2 z h.1, h.2⟩; trivial
  · exact h.elim
def cod_X7_takes : List (Nat × Op QT) := [(0, O_aload 0 1), (1, O_iload 1 1), (2, O_callV 1 0 (fun S => S) (fun _ S' => S') sp_X7_isOpen), (5, O_if_eq 33), (8, O_aload 0 1), (9, O_getf aW 7 0), (12, O_int 87 2), (14, O_int 2 1), (15, O_iload 1 1), (16, O_imul), (17, O_iadd), (18, O_ald aW 0), (19, O_aload 0 1), (20, O_getf aW 7 0), (23, O_int 1 1), (24, O_ald aW 0), (25, O_imul), (26, O_int 400 3), (29, O_idiv), (30, O_goto 34), (33, O_int 0 1), (34, O_iret)]
abbrev cut_X7_takes : List Nat := []
set_option maxRecDepth 100000 in
theorem okc_X7_takes {E : En} (F : Fx E RX7 cX7_takes 2 1) (G : Fr E (some .int)) : CodOk E aW cod_X7_takes := by
  unfold CodOk cod_X7_takes
  refine List.forall_mem_cons.mpr ⟨ok_aload_n F dX7_takes_0 rfl (by decide), ?_⟩
  refine List.forall_mem_cons.mpr ⟨ok_iload_n F dX7_takes_1 rfl (by decide), ?_⟩
  refine List.forall_mem_cons.mpr ⟨ok_callV F spok_X7_isOpen (ln_id aW) rcv_aW (by decide +kernel) (by decide) dX7_takes_2 (by decide), ?_⟩
  refine List.forall_mem_cons.mpr ⟨ok_if_eq F dX7_takes_5 (by decide) (by decide) (by decide), ?_⟩
  refine List.forall_mem_cons.mpr ⟨ok_aload_n F dX7_takes_8 rfl (by decide), ?_⟩
  refine List.forall_mem_cons.mpr ⟨ok_getf F flX7_7 dX7_takes_9 (by decide), ?_⟩
  refine List.forall_mem_cons.mpr ⟨ok_bipush F dX7_takes_12 (by decide) (by decide), ?_⟩
  refine List.forall_mem_cons.mpr ⟨ok_iconst F dX7_takes_14 (by decide) (by decide), ?_⟩
  refine List.forall_mem_cons.mpr ⟨ok_iload_n F dX7_takes_15 rfl (by decide), ?_⟩
  refine List.forall_mem_cons.mpr ⟨ok_imul F dX7_takes_16 (by decide), ?_⟩
  refine List.forall_mem_cons.mpr ⟨ok_iadd F dX7_takes_17 (by decide), ?_⟩
  refine List.forall_mem_cons.mpr ⟨ok_iald F dX7_takes_18 (by decide), ?_⟩
  refine List.forall_mem_cons.mpr ⟨ok_aload_n F dX7_takes_19 rfl (by decide), ?_⟩
  refine List.forall_mem_cons.mpr ⟨ok_getf F flX7_7 dX7_takes_20 (by decide), ?_⟩
  refine List.forall_mem_cons.mpr ⟨ok_iconst F dX7_takes_23 (by decide) (by decide), ?_⟩
  refine List.forall_mem_cons.mpr ⟨ok_iald F dX7_takes_24 (by decide), ?_⟩
  refine List.forall_mem_cons.mpr ⟨ok_imul F dX7_takes_25 (by decide), ?_⟩
  refine List.forall_mem_cons.mpr ⟨ok_sipush F dX7_takes_26 (by decide) (by decide), ?_⟩
  refine List.forall_mem_cons.mpr ⟨ok_idiv F dX7_takes_29 (by decide), ?_⟩
  refine List.forall_mem_cons.mpr ⟨ok_goto F dX7_takes_30 (by decide) (by decide) (by decide), ?_⟩
  refine List.forall_mem_cons.mpr ⟨ok_iconst F dX7_takes_33 (by decide) (by decide), ?_⟩
  refine List.forall_mem_cons.mpr ⟨ok_iret F G dX7_takes_34 (by decide), ?_⟩
  exact fun _ h => absurd h List.not_mem_nil
set_option maxRecDepth 100000 in
theorem w_X7_takes : (∀ (K : Kt QT) (n : Nat) (L : xL) (st : List Value) (S : QT), nx cod_X7_takes cut_X7_takes K (n + 1) 0 L st S = (O_aload 0 1) (nx cod_X7_takes cut_X7_takes K n) 0 L st S) ∧
  (∀ (K : Kt QT) (n : Nat) (L : xL) (st : List Value) (S : QT), nx cod_X7_takes cut_X7_takes K (n + 1) 1 L st S = (O_iload 1 1) (nx cod_X7_takes cut_X7_takes K n) 1 L st S) ∧
  (∀ (K : Kt QT) (n : Nat) (L : xL) (st : List Value) (S : QT), nx cod_X7_takes cut_X7_takes K (n + 1) 2 L st S = (O_callV 1 0 (fun S => S) (fun _ S' => S') sp_X7_isOpen) (nx cod_X7_takes cut_X7_takes K n) 2 L st S) ∧
  (∀ (K : Kt QT) (n : Nat) (L : xL) (st : List Value) (S : QT), nx cod_X7_takes cut_X7_takes K (n + 1) 5 L st S = (O_if_eq 33) (nx cod_X7_takes cut_X7_takes K n) 5 L st S) ∧
  (∀ (K : Kt QT) (n : Nat) (L : xL) (st : List Value) (S : QT), nx cod_X7_takes cut_X7_takes K (n + 1) 8 L st S = (O_aload 0 1) (nx cod_X7_takes cut_X7_takes K n) 8 L st S) ∧
  (∀ (K : Kt QT) (n : Nat) (L : xL) (st : List Value) (S : QT), nx cod_X7_takes cut_X7_takes K (n + 1) 9 L st S = (O_getf aW 7 0) (nx cod_X7_takes cut_X7_takes K n) 9 L st S) ∧
  (∀ (K : Kt QT) (n : Nat) (L : xL) (st : List Value) (S : QT), nx cod_X7_takes cut_X7_takes K (n + 1) 12 L st S = (O_int 87 2) (nx cod_X7_takes cut_X7_takes K n) 12 L st S) ∧
  (∀ (K : Kt QT) (n : Nat) (L : xL) (st : List Value) (S : QT), nx cod_X7_takes cut_X7_takes K (n + 1) 14 L st S = (O_int 2 1) (nx cod_X7_takes cut_X7_takes K n) 14 L st S) ∧
  (∀ (K : Kt QT) (n : Nat) (L : xL) (st : List Value) (S : QT), nx cod_X7_takes cut_X7_takes K (n + 1) 15 L st S = (O_iload 1 1) (nx cod_X7_takes cut_X7_takes K n) 15 L st S) ∧
  (∀ (K : Kt QT) (n : Nat) (L : xL) (st : List Value) (S : QT), nx cod_X7_takes cut_X7_takes K (n + 1) 16 L st S = (O_imul) (nx cod_X7_takes cut_X7_takes K n) 16 L st S) ∧
  (∀ (K : Kt QT) (n : Nat) (L : xL) (st : List Value) (S : QT), nx cod_X7_takes cut_X7_takes K (n + 1) 17 L st S = (O_iadd) (nx cod_X7_takes cut_X7_takes K n) 17 L st S) ∧
  (∀ (K : Kt QT) (n : Nat) (L : xL) (st : List Value) (S : QT), nx cod_X7_takes cut_X7_takes K (n + 1) 18 L st S = (O_ald aW 0) (nx cod_X7_takes cut_X7_takes K n) 18 L st S) ∧
  (∀ (K : Kt QT) (n : Nat) (L : xL) (st : List Value) (S : QT), nx cod_X7_takes cut_X7_takes K (n + 1) 19 L st S = (O_aload 0 1) (nx cod_X7_takes cut_X7_takes K n) 19 L st S) ∧
  (∀ (K : Kt QT) (n : Nat) (L : xL) (st : List Value) (S : QT), nx cod_X7_takes cut_X7_takes K (n + 1) 20 L st S = (O_getf aW 7 0) (nx cod_X7_takes cut_X7_takes K n) 20 L st S) ∧
  (∀ (K : Kt QT) (n : Nat) (L : xL) (st : List Value) (S : QT), nx cod_X7_takes cut_X7_takes K (n + 1) 23 L st S = (O_int 1 1) (nx cod_X7_takes cut_X7_takes K n) 23 L st S) ∧
  (∀ (K : Kt QT) (n : Nat) (L : xL) (st : List Value) (S : QT), nx cod_X7_takes cut_X7_takes K (n + 1) 24 L st S = (O_ald aW 0) (nx cod_X7_takes cut_X7_takes K n) 24 L st S) ∧
  (∀ (K : Kt QT) (n : Nat) (L : xL) (st : List Value) (S : QT), nx cod_X7_takes cut_X7_takes K (n + 1) 25 L st S = (O_imul) (nx cod_X7_takes cut_X7_takes K n) 25 L st S) ∧
  (∀ (K : Kt QT) (n : Nat) (L : xL) (st : List Value) (S : QT), nx cod_X7_takes cut_X7_takes K (n + 1) 26 L st S = (O_int 400 3) (nx cod_X7_takes cut_X7_takes K n) 26 L st S) ∧
  (∀ (K : Kt QT) (n : Nat) (L : xL) (st : List Value) (S : QT), nx cod_X7_takes cut_X7_takes K (n + 1) 29 L st S = (O_idiv) (nx cod_X7_takes cut_X7_takes K n) 29 L st S) ∧
  (∀ (K : Kt QT) (n : Nat) (L : xL) (st : List Value) (S : QT), nx cod_X7_takes cut_X7_takes K (n + 1) 30 L st S = (O_goto 34) (nx cod_X7_takes cut_X7_takes K n) 30 L st S) ∧
  (∀ (K : Kt QT) (n : Nat) (L : xL) (st : List Value) (S : QT), nx cod_X7_takes cut_X7_takes K (n + 1) 33 L st S = (O_int 0 1) (nx cod_X7_takes cut_X7_takes K n) 33 L st S) ∧
  (∀ (K : Kt QT) (n : Nat) (L : xL) (st : List Value) (S : QT), nx cod_X7_takes cut_X7_takes K (n + 1) 34 L st S = (O_iret) (nx cod_X7_takes cut_X7_takes K n) 34 L st S) ∧
  (∀ (K : Kt QT) (n : Nat) (L : xL) (st : List Value) (S : QT), nx cod_X7_takes cut_X7_takes K (n + 1) 100000 L st S = K 100000 L st S) := by
  repeat' apply And.intro
  all_goals (intros; rfl)
set_option maxRecDepth 100000 in
theorem mk_X7_takes {P P' : QT} {r : Option Value} {p0 : Int32} (body : ∀ E : En, CodOk E aW cod_X7_takes → Gd E aW 100000 [] r.toList P' → Gd E aW 0 [some (.ref 0), some (.int p0)] [] P) : Con yX7_takes cX7_takes 2 (some .int) 1 aW [.ref 0, .int p0] P r P' :=
  Con.of (by decide) ((aW_len P').trans (aW_len P).symm) rfl (Nat.le_of_ble_eq_true rfl) (fun E F G hr => body E (okc_X7_takes F G) hr)
set_option maxRecDepth 10000 in
theorem con_X7_takes (S : ST) (M : MT) (fl : Bool) (z : Int32) (hp : vp_in z 8 ∧ S.Z.bits) : Con yX7_takes cX7_takes 2 (some .int) 1 aW [.ref 0, .int z] (S, M, fl) (some (.int (S.Z.takes z.toNatClampNeg S.pressure))) ((S, M, fl)) := by
  refine mk_X7_takes (fun E C hr => ?_)
  obtain ⟨i, hi, ez, e1, e2, e3, e4, e5⟩ := at_zone hp.1
  have e6 := abs_zone S hi
  have hv := hp.1
  have hb := hp.2
  rw [e1] at hr
  clear hp ez
  (refine nx_ok C (cuts := cut_X7_takes) 1000 _ _ _ _ ?_; simp only [w_X7_takes, ops_eq, xst_eq, call_eq, oK_eq, Option.toList_some, Option.toList_none, List.cons_append, List.nil_append, List.length_cons, List.length_nil, true_and, and_true, Nat.reduceAdd, aW_F, aW_A, aW_P, aW_w, abs_eq, O_asti_eq, v170, cl_eq, ST_id, MT_gs, ST_gs, PT_gs, ZT_gs, NT_gs, ET_gs, se_X7_isOpen, bI_eq, e1, e2, e3, e4, e5, e6, hv, hb, show ¬ (400 : Int32) = 0 from by decide])
  ((repeat' (with_reducible first | apply And.intro | intro _)) <;> simp_all [ZT.takes, ZT.isOp, ST_id, MT_gs, ST_gs, PT_gs, ZT_gs, NT_gs, ET_gs])
def spc_X7_takes (S : ST) (M : MT) (fl : Bool) (z : Int32) (K : Option Value → QT → Prop) : Prop := (vp_in z 8 ∧ S.Z.bits) ∧ K (some (.int (S.Z.takes z.toNatClampNeg S.pressure))) ((S, M, fl))
def sp_X7_takes : Sp QT := fun av q K => match av with
  | [.ref 0, .int z] => spc_X7_takes q.1 q.2.1 q.2.2 z K
  | _ => False
theorem se_X7_takes (S : ST) (M : MT) (fl : Bool) (z : Int32) (K : Option Value → QT → Prop) : sp_X7_takes [.ref 0, .int z] (S, M, fl) K = ((vp_in z 8 ∧ S.Z.bits) ∧ K (some (.int (S.Z.takes z.toNatClampNeg S.pressure))) ((S, M, fl))) := rfl
theorem spok_X7_takes : SpOk yX7_takes cX7_takes 2 (some .int) 1 aW sp_X7_takes := by
  intro av q K h
  unfold sp_X7_takes at h
  split at h
  · rename_i z; refine ⟨_, _, ?_, con_X7_takes q.1 q.2.1 q.2.2 z h.1, h.2⟩; trivial
  · exact h.elim
def cod_X7_openZones : List (Nat × Op QT) := [(0, O_int 0 1), (1, O_istore 1 1), (2, O_int 0 1), (3, O_istore 2 1), (4, O_iload 2 1), (5, O_aload 0 1), (6, O_getf aW 7 0), (9, O_int 15 2), (11, O_ald aW 0), (12, O_icmp_ge 37), (15, O_iload 1 1), (16, O_aload 0 1), (17, O_iload 2 1), (18, O_callV 1 0 (fun S => S) (fun _ S' => S') sp_X7_isOpen), (21, O_if_eq 28), (24, O_int 1 1), (25, O_goto 29), (28, O_int 0 1), (29, O_iadd), (30, O_istore 1 1), (31, O_iinc 2 1), (34, O_goto 4), (37, O_iload 1 1), (38, O_iret)]
abbrev cut_X7_openZones : List Nat := [4]
set_option maxRecDepth 100000 in
theorem okc_X7_openZones {E : En} (F : Fx E RX7 cX7_openZones 3 1) (G : Fr E (some .int)) : CodOk E aW cod_X7_openZones := by
  unfold CodOk cod_X7_openZones
  refine List.forall_mem_cons.mpr ⟨ok_iconst F dX7_openZones_0 (by decide) (by decide), ?_⟩
  refine List.forall_mem_cons.mpr ⟨ok_istore_n F dX7_openZones_1 rfl (by decide) (by decide), ?_⟩
  refine List.forall_mem_cons.mpr ⟨ok_iconst F dX7_openZones_2 (by decide) (by decide), ?_⟩
  refine List.forall_mem_cons.mpr ⟨ok_istore_n F dX7_openZones_3 rfl (by decide) (by decide), ?_⟩
  refine List.forall_mem_cons.mpr ⟨ok_iload_n F dX7_openZones_4 rfl (by decide), ?_⟩
  refine List.forall_mem_cons.mpr ⟨ok_aload_n F dX7_openZones_5 rfl (by decide), ?_⟩
  refine List.forall_mem_cons.mpr ⟨ok_getf F flX7_7 dX7_openZones_6 (by decide), ?_⟩
  refine List.forall_mem_cons.mpr ⟨ok_bipush F dX7_openZones_9 (by decide) (by decide), ?_⟩
  refine List.forall_mem_cons.mpr ⟨ok_iald F dX7_openZones_11 (by decide), ?_⟩
  refine List.forall_mem_cons.mpr ⟨ok_icmp_ge F dX7_openZones_12 (by decide) (by decide) (by decide), ?_⟩
  refine List.forall_mem_cons.mpr ⟨ok_iload_n F dX7_openZones_15 rfl (by decide), ?_⟩
  refine List.forall_mem_cons.mpr ⟨ok_aload_n F dX7_openZones_16 rfl (by decide), ?_⟩
  refine List.forall_mem_cons.mpr ⟨ok_iload_n F dX7_openZones_17 rfl (by decide), ?_⟩
  refine List.forall_mem_cons.mpr ⟨ok_callV F spok_X7_isOpen (ln_id aW) rcv_aW (by decide +kernel) (by decide) dX7_openZones_18 (by decide), ?_⟩
  refine List.forall_mem_cons.mpr ⟨ok_if_eq F dX7_openZones_21 (by decide) (by decide) (by decide), ?_⟩
  refine List.forall_mem_cons.mpr ⟨ok_iconst F dX7_openZones_24 (by decide) (by decide), ?_⟩
  refine List.forall_mem_cons.mpr ⟨ok_goto F dX7_openZones_25 (by decide) (by decide) (by decide), ?_⟩
  refine List.forall_mem_cons.mpr ⟨ok_iconst F dX7_openZones_28 (by decide) (by decide), ?_⟩
  refine List.forall_mem_cons.mpr ⟨ok_iadd F dX7_openZones_29 (by decide), ?_⟩
  refine List.forall_mem_cons.mpr ⟨ok_istore_n F dX7_openZones_30 rfl (by decide) (by decide), ?_⟩
  refine List.forall_mem_cons.mpr ⟨ok_iinc F dX7_openZones_31 (by decide) (by decide) (by decide), ?_⟩
  refine List.forall_mem_cons.mpr ⟨ok_goto F dX7_openZones_34 (by decide) (by decide) (by decide), ?_⟩
  refine List.forall_mem_cons.mpr ⟨ok_iload_n F dX7_openZones_37 rfl (by decide), ?_⟩
  refine List.forall_mem_cons.mpr ⟨ok_iret F G dX7_openZones_38 (by decide), ?_⟩
  exact fun _ h => absurd h List.not_mem_nil
set_option maxRecDepth 100000 in
theorem w_X7_openZones : (∀ (K : Kt QT) (n : Nat) (L : xL) (st : List Value) (S : QT), nx cod_X7_openZones cut_X7_openZones K (n + 1) 0 L st S = (O_int 0 1) (nx cod_X7_openZones cut_X7_openZones K n) 0 L st S) ∧
  (∀ (K : Kt QT) (n : Nat) (L : xL) (st : List Value) (S : QT), nx cod_X7_openZones cut_X7_openZones K (n + 1) 1 L st S = (O_istore 1 1) (nx cod_X7_openZones cut_X7_openZones K n) 1 L st S) ∧
  (∀ (K : Kt QT) (n : Nat) (L : xL) (st : List Value) (S : QT), nx cod_X7_openZones cut_X7_openZones K (n + 1) 2 L st S = (O_int 0 1) (nx cod_X7_openZones cut_X7_openZones K n) 2 L st S) ∧
  (∀ (K : Kt QT) (n : Nat) (L : xL) (st : List Value) (S : QT), nx cod_X7_openZones cut_X7_openZones K (n + 1) 3 L st S = (O_istore 2 1) (nx cod_X7_openZones cut_X7_openZones K n) 3 L st S) ∧
  (∀ (K : Kt QT) (n : Nat) (L : xL) (st : List Value) (S : QT), nx cod_X7_openZones cut_X7_openZones K (n + 1) 4 L st S = K 4 L st S) ∧
  (∀ (K : Kt QT) (n : Nat) (L : xL) (st : List Value) (S : QT), nx1 cod_X7_openZones cut_X7_openZones K n 4 L st S = (O_iload 2 1) (nx cod_X7_openZones cut_X7_openZones K n) 4 L st S) ∧
  (∀ (K : Kt QT) (n : Nat) (L : xL) (st : List Value) (S : QT), nx cod_X7_openZones cut_X7_openZones K (n + 1) 5 L st S = (O_aload 0 1) (nx cod_X7_openZones cut_X7_openZones K n) 5 L st S) ∧
  (∀ (K : Kt QT) (n : Nat) (L : xL) (st : List Value) (S : QT), nx cod_X7_openZones cut_X7_openZones K (n + 1) 6 L st S = (O_getf aW 7 0) (nx cod_X7_openZones cut_X7_openZones K n) 6 L st S) ∧
  (∀ (K : Kt QT) (n : Nat) (L : xL) (st : List Value) (S : QT), nx cod_X7_openZones cut_X7_openZones K (n + 1) 9 L st S = (O_int 15 2) (nx cod_X7_openZones cut_X7_openZones K n) 9 L st S) ∧
  (∀ (K : Kt QT) (n : Nat) (L : xL) (st : List Value) (S : QT), nx cod_X7_openZones cut_X7_openZones K (n + 1) 11 L st S = (O_ald aW 0) (nx cod_X7_openZones cut_X7_openZones K n) 11 L st S) ∧
  (∀ (K : Kt QT) (n : Nat) (L : xL) (st : List Value) (S : QT), nx cod_X7_openZones cut_X7_openZones K (n + 1) 12 L st S = (O_icmp_ge 37) (nx cod_X7_openZones cut_X7_openZones K n) 12 L st S) ∧
  (∀ (K : Kt QT) (n : Nat) (L : xL) (st : List Value) (S : QT), nx cod_X7_openZones cut_X7_openZones K (n + 1) 15 L st S = (O_iload 1 1) (nx cod_X7_openZones cut_X7_openZones K n) 15 L st S) ∧
  (∀ (K : Kt QT) (n : Nat) (L : xL) (st : List Value) (S : QT), nx cod_X7_openZones cut_X7_openZones K (n + 1) 16 L st S = (O_aload 0 1) (nx cod_X7_openZones cut_X7_openZones K n) 16 L st S) ∧
  (∀ (K : Kt QT) (n : Nat) (L : xL) (st : List Value) (S : QT), nx cod_X7_openZones cut_X7_openZones K (n + 1) 17 L st S = (O_iload 2 1) (nx cod_X7_openZones cut_X7_openZones K n) 17 L st S) ∧
  (∀ (K : Kt QT) (n : Nat) (L : xL) (st : List Value) (S : QT), nx cod_X7_openZones cut_X7_openZones K (n + 1) 18 L st S = (O_callV 1 0 (fun S => S) (fun _ S' => S') sp_X7_isOpen) (nx cod_X7_openZones cut_X7_openZones K n) 18 L st S) ∧
  (∀ (K : Kt QT) (n : Nat) (L : xL) (st : List Value) (S : QT), nx cod_X7_openZones cut_X7_openZones K (n + 1) 21 L st S = (O_if_eq 28) (nx cod_X7_openZones cut_X7_openZones K n) 21 L st S) ∧
  (∀ (K : Kt QT) (n : Nat) (L : xL) (st : List Value) (S : QT), nx cod_X7_openZones cut_X7_openZones K (n + 1) 24 L st S = (O_int 1 1) (nx cod_X7_openZones cut_X7_openZones K n) 24 L st S) ∧
  (∀ (K : Kt QT) (n : Nat) (L : xL) (st : List Value) (S : QT), nx cod_X7_openZones cut_X7_openZones K (n + 1) 25 L st S = (O_goto 29) (nx cod_X7_openZones cut_X7_openZones K n) 25 L st S) ∧
  (∀ (K : Kt QT) (n : Nat) (L : xL) (st : List Value) (S : QT), nx cod_X7_openZones cut_X7_openZones K (n + 1) 28 L st S = (O_int 0 1) (nx cod_X7_openZones cut_X7_openZones K n) 28 L st S) ∧
  (∀ (K : Kt QT) (n : Nat) (L : xL) (st : List Value) (S : QT), nx cod_X7_openZones cut_X7_openZones K (n + 1) 29 L st S = (O_iadd) (nx cod_X7_openZones cut_X7_openZones K n) 29 L st S) ∧
  (∀ (K : Kt QT) (n : Nat) (L : xL) (st : List Value) (S : QT), nx cod_X7_openZones cut_X7_openZones K (n + 1) 30 L st S = (O_istore 1 1) (nx cod_X7_openZones cut_X7_openZones K n) 30 L st S) ∧
  (∀ (K : Kt QT) (n : Nat) (L : xL) (st : List Value) (S : QT), nx cod_X7_openZones cut_X7_openZones K (n + 1) 31 L st S = (O_iinc 2 1) (nx cod_X7_openZones cut_X7_openZones K n) 31 L st S) ∧
  (∀ (K : Kt QT) (n : Nat) (L : xL) (st : List Value) (S : QT), nx cod_X7_openZones cut_X7_openZones K (n + 1) 34 L st S = (O_goto 4) (nx cod_X7_openZones cut_X7_openZones K n) 34 L st S) ∧
  (∀ (K : Kt QT) (n : Nat) (L : xL) (st : List Value) (S : QT), nx cod_X7_openZones cut_X7_openZones K (n + 1) 37 L st S = (O_iload 1 1) (nx cod_X7_openZones cut_X7_openZones K n) 37 L st S) ∧
  (∀ (K : Kt QT) (n : Nat) (L : xL) (st : List Value) (S : QT), nx cod_X7_openZones cut_X7_openZones K (n + 1) 38 L st S = (O_iret) (nx cod_X7_openZones cut_X7_openZones K n) 38 L st S) ∧
  (∀ (K : Kt QT) (n : Nat) (L : xL) (st : List Value) (S : QT), nx cod_X7_openZones cut_X7_openZones K (n + 1) 100000 L st S = K 100000 L st S) := by
  repeat' apply And.intro
  all_goals (intros; rfl)
set_option maxRecDepth 100000 in
theorem mk_X7_openZones {P P' : QT} {r : Option Value}  (body : ∀ E : En, CodOk E aW cod_X7_openZones → Gd E aW 100000 [] r.toList P' → Gd E aW 0 [some (.ref 0), none, none] [] P) : Con yX7_openZones cX7_openZones 3 (some .int) 1 aW [.ref 0] P r P' :=
  Con.of (by decide) ((aW_len P').trans (aW_len P).symm) rfl (Nat.le_of_ble_eq_true rfl) (fun E F G hr => body E (okc_X7_openZones F G) hr)
set_option maxRecDepth 10000 in
theorem con_X7_openZones (S : ST) (M : MT) (fl : Bool)  (hp : S.Z.ok ∧ S.Z.bits) : Con yX7_openZones cX7_openZones 3 (some .int) 1 aW [.ref 0] (S, M, fl) (some (.int (S.Z.openOnes))) ((S, M, fl)) := by
  refine mk_X7_openZones (fun E C hr => ?_)
  have hb := hp.2
  (refine nx_ok C (cuts := cut_X7_openZones) 1000 _ _ _ _ ?_; simp only [w_X7_openZones, ops_eq, xst_eq, call_eq, oK_eq, Option.toList_some, Option.toList_none, List.cons_append, List.nil_append, List.length_cons, List.length_nil, true_and, and_true, Nat.reduceAdd, aW_F, aW_A, aW_P, aW_w, abs_eq, O_asti_eq, v170, cl_eq, ST_id, MT_gs, ST_gs, PT_gs, ZT_gs, NT_gs, ET_gs, se_X7_isOpen])
  refine it_up (f := fun z r => r + bI (S.Z.isOp z)) (n := S.Z.n) (fun _ _ => True) (fun i r => Gd E aW 4 [some (.ref 0), some (.int r), some (.int (nI i))] [] (S, M, fl)) trivial (fun _ _ _ _ => trivial) (fun i r hi _ hn => ?_) ?_
  · have hx := ixs hp.1.1 hi
    (refine nx1_ok C cut_X7_openZones 1000 ?_; simp only [w_X7_openZones, ops_eq, xst_eq, call_eq, oK_eq, Option.toList_some, Option.toList_none, List.cons_append, List.nil_append, List.length_cons, List.length_nil, true_and, and_true, Nat.reduceAdd, aW_F, aW_A, aW_P, aW_w, abs_eq, O_asti_eq, v170, cl_eq, ST_id, MT_gs, ST_gs, PT_gs, ZT_gs, NT_gs, ET_gs, se_X7_isOpen, hx, hb, cl_eq, bI_eq])
    ((repeat' (with_reducible first | apply And.intro | intro _)) <;> simp_all [bI, ST_id, MT_gs, ST_gs, PT_gs, ZT_gs, NT_gs, ET_gs])
  · have hx := ixe hp.1.1
    (refine nx1_ok C cut_X7_openZones 1000 ?_; simp only [w_X7_openZones, ops_eq, xst_eq, call_eq, oK_eq, Option.toList_some, Option.toList_none, List.cons_append, List.nil_append, List.length_cons, List.length_nil, true_and, and_true, Nat.reduceAdd, aW_F, aW_A, aW_P, aW_w, abs_eq, O_asti_eq, v170, cl_eq, ST_id, MT_gs, ST_gs, PT_gs, ZT_gs, NT_gs, ET_gs, se_X7_isOpen, hx, cl_eq])
    ((repeat' (with_reducible first | apply And.intro | intro _)) <;> simp_all [ZT.openOnes, ST_id, MT_gs, ST_gs, PT_gs, ZT_gs, NT_gs, ET_gs])
def spc_X7_openZones (S : ST) (M : MT) (fl : Bool)  (K : Option Value → QT → Prop) : Prop := (S.Z.ok ∧ S.Z.bits) ∧ K (some (.int (S.Z.openOnes))) ((S, M, fl))
def sp_X7_openZones : Sp QT := fun av q K => match av with
  | [.ref 0] => spc_X7_openZones q.1 q.2.1 q.2.2  K
  | _ => False
theorem se_X7_openZones (S : ST) (M : MT) (fl : Bool)  (K : Option Value → QT → Prop) : sp_X7_openZones [.ref 0] (S, M, fl) K = ((S.Z.ok ∧ S.Z.bits) ∧ K (some (.int (S.Z.openOnes))) ((S, M, fl))) := rfl
theorem spok_X7_openZones : SpOk yX7_openZones cX7_openZones 3 (some .int) 1 aW sp_X7_openZones := by
  intro av q K h
  unfold sp_X7_openZones at h
  split at h
  · refine ⟨_, _, ?_, con_X7_openZones q.1 q.2.1 q.2.2  h.1, h.2⟩; trivial
  · exact h.elim
theorem it_add (f : Nat → Int32) (a : Int32) : ∀ n, it (fun z r => r + f z) a n = it (fun z r => r + f z) 0 n + a
  | 0 => (Int32.zero_add a).symm
  | n + 1 => by
    rw [it, it, it_add f a n, Int32.add_assoc, Int32.add_comm a, ← Int32.add_assoc]
def cod_X7_demand : List (Nat × Op QT) := [(0, O_aload 0 1), (1, O_getf aW 7 0), (4, O_int 17 2), (6, O_ald aW 0), (7, O_aload 0 1), (8, O_getf aW 7 0), (11, O_int 1 1), (12, O_ald aW 0), (13, O_imul), (14, O_int 1000 3), (17, O_idiv), (18, O_istore 1 1), (19, O_int 0 1), (20, O_istore 2 1), (21, O_iload 2 1), (22, O_aload 0 1), (23, O_getf aW 7 0), (26, O_int 15 2), (28, O_ald aW 0), (29, O_icmp_ge 46), (32, O_iload 1 1), (33, O_aload 0 1), (34, O_iload 2 1), (35, O_callV 1 0 (fun S => S) (fun _ S' => S') sp_X7_takes), (38, O_iadd), (39, O_istore 1 1), (40, O_iinc 2 1), (43, O_goto 21), (46, O_iload 1 1), (47, O_iret)]
abbrev cut_X7_demand : List Nat := [21]
set_option maxRecDepth 100000 in
theorem okc_X7_demand {E : En} (F : Fx E RX7 cX7_demand 3 2) (G : Fr E (some .int)) : CodOk E aW cod_X7_demand := by
  unfold CodOk cod_X7_demand
  refine List.forall_mem_cons.mpr ⟨ok_aload_n F dX7_demand_0 rfl (by decide), ?_⟩
  refine List.forall_mem_cons.mpr ⟨ok_getf F flX7_7 dX7_demand_1 (by decide), ?_⟩
  refine List.forall_mem_cons.mpr ⟨ok_bipush F dX7_demand_4 (by decide) (by decide), ?_⟩
  refine List.forall_mem_cons.mpr ⟨ok_iald F dX7_demand_6 (by decide), ?_⟩
  refine List.forall_mem_cons.mpr ⟨ok_aload_n F dX7_demand_7 rfl (by decide), ?_⟩
  refine List.forall_mem_cons.mpr ⟨ok_getf F flX7_7 dX7_demand_8 (by decide), ?_⟩
  refine List.forall_mem_cons.mpr ⟨ok_iconst F dX7_demand_11 (by decide) (by decide), ?_⟩
  refine List.forall_mem_cons.mpr ⟨ok_iald F dX7_demand_12 (by decide), ?_⟩
  refine List.forall_mem_cons.mpr ⟨ok_imul F dX7_demand_13 (by decide), ?_⟩
  refine List.forall_mem_cons.mpr ⟨ok_sipush F dX7_demand_14 (by decide) (by decide), ?_⟩
  refine List.forall_mem_cons.mpr ⟨ok_idiv F dX7_demand_17 (by decide), ?_⟩
  refine List.forall_mem_cons.mpr ⟨ok_istore_n F dX7_demand_18 rfl (by decide) (by decide), ?_⟩
  refine List.forall_mem_cons.mpr ⟨ok_iconst F dX7_demand_19 (by decide) (by decide), ?_⟩
  refine List.forall_mem_cons.mpr ⟨ok_istore_n F dX7_demand_20 rfl (by decide) (by decide), ?_⟩
  refine List.forall_mem_cons.mpr ⟨ok_iload_n F dX7_demand_21 rfl (by decide), ?_⟩
  refine List.forall_mem_cons.mpr ⟨ok_aload_n F dX7_demand_22 rfl (by decide), ?_⟩
  refine List.forall_mem_cons.mpr ⟨ok_getf F flX7_7 dX7_demand_23 (by decide), ?_⟩
  refine List.forall_mem_cons.mpr ⟨ok_bipush F dX7_demand_26 (by decide) (by decide), ?_⟩
  refine List.forall_mem_cons.mpr ⟨ok_iald F dX7_demand_28 (by decide), ?_⟩
  refine List.forall_mem_cons.mpr ⟨ok_icmp_ge F dX7_demand_29 (by decide) (by decide) (by decide), ?_⟩
  refine List.forall_mem_cons.mpr ⟨ok_iload_n F dX7_demand_32 rfl (by decide), ?_⟩
  refine List.forall_mem_cons.mpr ⟨ok_aload_n F dX7_demand_33 rfl (by decide), ?_⟩
  refine List.forall_mem_cons.mpr ⟨ok_iload_n F dX7_demand_34 rfl (by decide), ?_⟩
  refine List.forall_mem_cons.mpr ⟨ok_callV F spok_X7_takes (ln_id aW) rcv_aW (by decide +kernel) (by decide) dX7_demand_35 (by decide), ?_⟩
  refine List.forall_mem_cons.mpr ⟨ok_iadd F dX7_demand_38 (by decide), ?_⟩
  refine List.forall_mem_cons.mpr ⟨ok_istore_n F dX7_demand_39 rfl (by decide) (by decide), ?_⟩
  refine List.forall_mem_cons.mpr ⟨ok_iinc F dX7_demand_40 (by decide) (by decide) (by decide), ?_⟩
  refine List.forall_mem_cons.mpr ⟨ok_goto F dX7_demand_43 (by decide) (by decide) (by decide), ?_⟩
  refine List.forall_mem_cons.mpr ⟨ok_iload_n F dX7_demand_46 rfl (by decide), ?_⟩
  refine List.forall_mem_cons.mpr ⟨ok_iret F G dX7_demand_47 (by decide), ?_⟩
  exact fun _ h => absurd h List.not_mem_nil
set_option maxRecDepth 100000 in
theorem w_X7_demand : (∀ (K : Kt QT) (n : Nat) (L : xL) (st : List Value) (S : QT), nx cod_X7_demand cut_X7_demand K (n + 1) 0 L st S = (O_aload 0 1) (nx cod_X7_demand cut_X7_demand K n) 0 L st S) ∧
  (∀ (K : Kt QT) (n : Nat) (L : xL) (st : List Value) (S : QT), nx cod_X7_demand cut_X7_demand K (n + 1) 1 L st S = (O_getf aW 7 0) (nx cod_X7_demand cut_X7_demand K n) 1 L st S) ∧
  (∀ (K : Kt QT) (n : Nat) (L : xL) (st : List Value) (S : QT), nx cod_X7_demand cut_X7_demand K (n + 1) 4 L st S = (O_int 17 2) (nx cod_X7_demand cut_X7_demand K n) 4 L st S) ∧
  (∀ (K : Kt QT) (n : Nat) (L : xL) (st : List Value) (S : QT), nx cod_X7_demand cut_X7_demand K (n + 1) 6 L st S = (O_ald aW 0) (nx cod_X7_demand cut_X7_demand K n) 6 L st S) ∧
  (∀ (K : Kt QT) (n : Nat) (L : xL) (st : List Value) (S : QT), nx cod_X7_demand cut_X7_demand K (n + 1) 7 L st S = (O_aload 0 1) (nx cod_X7_demand cut_X7_demand K n) 7 L st S) ∧
  (∀ (K : Kt QT) (n : Nat) (L : xL) (st : List Value) (S : QT), nx cod_X7_demand cut_X7_demand K (n + 1) 8 L st S = (O_getf aW 7 0) (nx cod_X7_demand cut_X7_demand K n) 8 L st S) ∧
  (∀ (K : Kt QT) (n : Nat) (L : xL) (st : List Value) (S : QT), nx cod_X7_demand cut_X7_demand K (n + 1) 11 L st S = (O_int 1 1) (nx cod_X7_demand cut_X7_demand K n) 11 L st S) ∧
  (∀ (K : Kt QT) (n : Nat) (L : xL) (st : List Value) (S : QT), nx cod_X7_demand cut_X7_demand K (n + 1) 12 L st S = (O_ald aW 0) (nx cod_X7_demand cut_X7_demand K n) 12 L st S) ∧
  (∀ (K : Kt QT) (n : Nat) (L : xL) (st : List Value) (S : QT), nx cod_X7_demand cut_X7_demand K (n + 1) 13 L st S = (O_imul) (nx cod_X7_demand cut_X7_demand K n) 13 L st S) ∧
  (∀ (K : Kt QT) (n : Nat) (L : xL) (st : List Value) (S : QT), nx cod_X7_demand cut_X7_demand K (n + 1) 14 L st S = (O_int 1000 3) (nx cod_X7_demand cut_X7_demand K n) 14 L st S) ∧
  (∀ (K : Kt QT) (n : Nat) (L : xL) (st : List Value) (S : QT), nx cod_X7_demand cut_X7_demand K (n + 1) 17 L st S = (O_idiv) (nx cod_X7_demand cut_X7_demand K n) 17 L st S) ∧
  (∀ (K : Kt QT) (n : Nat) (L : xL) (st : List Value) (S : QT), nx cod_X7_demand cut_X7_demand K (n + 1) 18 L st S = (O_istore 1 1) (nx cod_X7_demand cut_X7_demand K n) 18 L st S) ∧
  (∀ (K : Kt QT) (n : Nat) (L : xL) (st : List Value) (S : QT), nx cod_X7_demand cut_X7_demand K (n + 1) 19 L st S = (O_int 0 1) (nx cod_X7_demand cut_X7_demand K n) 19 L st S) ∧
  (∀ (K : Kt QT) (n : Nat) (L : xL) (st : List Value) (S : QT), nx cod_X7_demand cut_X7_demand K (n + 1) 20 L st S = (O_istore 2 1) (nx cod_X7_demand cut_X7_demand K n) 20 L st S) ∧
  (∀ (K : Kt QT) (n : Nat) (L : xL) (st : List Value) (S : QT), nx cod_X7_demand cut_X7_demand K (n + 1) 21 L st S = K 21 L st S) ∧
  (∀ (K : Kt QT) (n : Nat) (L : xL) (st : List Value) (S : QT), nx1 cod_X7_demand cut_X7_demand K n 21 L st S = (O_iload 2 1) (nx cod_X7_demand cut_X7_demand K n) 21 L st S) ∧
  (∀ (K : Kt QT) (n : Nat) (L : xL) (st : List Value) (S : QT), nx cod_X7_demand cut_X7_demand K (n + 1) 22 L st S = (O_aload 0 1) (nx cod_X7_demand cut_X7_demand K n) 22 L st S) ∧
  (∀ (K : Kt QT) (n : Nat) (L : xL) (st : List Value) (S : QT), nx cod_X7_demand cut_X7_demand K (n + 1) 23 L st S = (O_getf aW 7 0) (nx cod_X7_demand cut_X7_demand K n) 23 L st S) ∧
  (∀ (K : Kt QT) (n : Nat) (L : xL) (st : List Value) (S : QT), nx cod_X7_demand cut_X7_demand K (n + 1) 26 L st S = (O_int 15 2) (nx cod_X7_demand cut_X7_demand K n) 26 L st S) ∧
  (∀ (K : Kt QT) (n : Nat) (L : xL) (st : List Value) (S : QT), nx cod_X7_demand cut_X7_demand K (n + 1) 28 L st S = (O_ald aW 0) (nx cod_X7_demand cut_X7_demand K n) 28 L st S) ∧
  (∀ (K : Kt QT) (n : Nat) (L : xL) (st : List Value) (S : QT), nx cod_X7_demand cut_X7_demand K (n + 1) 29 L st S = (O_icmp_ge 46) (nx cod_X7_demand cut_X7_demand K n) 29 L st S) ∧
  (∀ (K : Kt QT) (n : Nat) (L : xL) (st : List Value) (S : QT), nx cod_X7_demand cut_X7_demand K (n + 1) 32 L st S = (O_iload 1 1) (nx cod_X7_demand cut_X7_demand K n) 32 L st S) ∧
  (∀ (K : Kt QT) (n : Nat) (L : xL) (st : List Value) (S : QT), nx cod_X7_demand cut_X7_demand K (n + 1) 33 L st S = (O_aload 0 1) (nx cod_X7_demand cut_X7_demand K n) 33 L st S) ∧
  (∀ (K : Kt QT) (n : Nat) (L : xL) (st : List Value) (S : QT), nx cod_X7_demand cut_X7_demand K (n + 1) 34 L st S = (O_iload 2 1) (nx cod_X7_demand cut_X7_demand K n) 34 L st S) ∧
  (∀ (K : Kt QT) (n : Nat) (L : xL) (st : List Value) (S : QT), nx cod_X7_demand cut_X7_demand K (n + 1) 35 L st S = (O_callV 1 0 (fun S => S) (fun _ S' => S') sp_X7_takes) (nx cod_X7_demand cut_X7_demand K n) 35 L st S) ∧
  (∀ (K : Kt QT) (n : Nat) (L : xL) (st : List Value) (S : QT), nx cod_X7_demand cut_X7_demand K (n + 1) 38 L st S = (O_iadd) (nx cod_X7_demand cut_X7_demand K n) 38 L st S) ∧
  (∀ (K : Kt QT) (n : Nat) (L : xL) (st : List Value) (S : QT), nx cod_X7_demand cut_X7_demand K (n + 1) 39 L st S = (O_istore 1 1) (nx cod_X7_demand cut_X7_demand K n) 39 L st S) ∧
  (∀ (K : Kt QT) (n : Nat) (L : xL) (st : List Value) (S : QT), nx cod_X7_demand cut_X7_demand K (n + 1) 40 L st S = (O_iinc 2 1) (nx cod_X7_demand cut_X7_demand K n) 40 L st S) ∧
  (∀ (K : Kt QT) (n : Nat) (L : xL) (st : List Value) (S : QT), nx cod_X7_demand cut_X7_demand K (n + 1) 43 L st S = (O_goto 21) (nx cod_X7_demand cut_X7_demand K n) 43 L st S) ∧
  (∀ (K : Kt QT) (n : Nat) (L : xL) (st : List Value) (S : QT), nx cod_X7_demand cut_X7_demand K (n + 1) 46 L st S = (O_iload 1 1) (nx cod_X7_demand cut_X7_demand K n) 46 L st S) ∧
  (∀ (K : Kt QT) (n : Nat) (L : xL) (st : List Value) (S : QT), nx cod_X7_demand cut_X7_demand K (n + 1) 47 L st S = (O_iret) (nx cod_X7_demand cut_X7_demand K n) 47 L st S) ∧
  (∀ (K : Kt QT) (n : Nat) (L : xL) (st : List Value) (S : QT), nx cod_X7_demand cut_X7_demand K (n + 1) 100000 L st S = K 100000 L st S) := by
  repeat' apply And.intro
  all_goals (intros; rfl)
set_option maxRecDepth 100000 in
theorem mk_X7_demand {P P' : QT} {r : Option Value}  (body : ∀ E : En, CodOk E aW cod_X7_demand → Gd E aW 100000 [] r.toList P' → Gd E aW 0 [some (.ref 0), none, none] [] P) : Con yX7_demand cX7_demand 3 (some .int) 2 aW [.ref 0] P r P' :=
  Con.of (by decide) ((aW_len P').trans (aW_len P).symm) rfl (Nat.le_of_ble_eq_true rfl) (fun E F G hr => body E (okc_X7_demand F G) hr)
set_option maxRecDepth 10000 in
theorem con_X7_demand (S : ST) (M : MT) (fl : Bool)  (hp : S.Z.ok ∧ S.Z.bits) : Con yX7_demand cX7_demand 3 (some .int) 2 aW [.ref 0] (S, M, fl) (some (.int (S.demand))) ((S, M, fl)) := by
  refine mk_X7_demand (fun E C hr => ?_)
  have hb := hp.2
  have e : S.demand = it (fun z r => r + S.Z.takes z S.pressure) (S.leak * S.pressure / 1000) S.Z.n := (it_add _ _ _).symm
  rw [e] at hr
  clear e
  (refine nx_ok C (cuts := cut_X7_demand) 1000 _ _ _ _ ?_; simp only [w_X7_demand, ops_eq, xst_eq, call_eq, oK_eq, Option.toList_some, Option.toList_none, List.cons_append, List.nil_append, List.length_cons, List.length_nil, true_and, and_true, Nat.reduceAdd, aW_F, aW_A, aW_P, aW_w, abs_eq, O_asti_eq, v170, cl_eq, ST_id, MT_gs, ST_gs, PT_gs, ZT_gs, NT_gs, ET_gs, se_X7_takes, cl_eq, dv_eq])
  refine ⟨not_false, ?_⟩
  refine it_up (f := fun z r => r + S.Z.takes z S.pressure) (n := S.Z.n) (fun _ _ => True) (fun i r => Gd E aW 21 [some (.ref 0), some (.int r), some (.int (nI i))] [] (S, M, fl)) trivial (fun _ _ _ _ => trivial) (fun i r hi _ hn => ?_) ?_
  · have hx := ixs hp.1.1 hi
    (refine nx1_ok C cut_X7_demand 1000 ?_; simp only [w_X7_demand, ops_eq, xst_eq, call_eq, oK_eq, Option.toList_some, Option.toList_none, List.cons_append, List.nil_append, List.length_cons, List.length_nil, true_and, and_true, Nat.reduceAdd, aW_F, aW_A, aW_P, aW_w, abs_eq, O_asti_eq, v170, cl_eq, ST_id, MT_gs, ST_gs, PT_gs, ZT_gs, NT_gs, ET_gs, se_X7_takes, hx, hb, cl_eq])
    ((repeat' (with_reducible first | apply And.intro | intro _)) <;> simp_all [ST_id, MT_gs, ST_gs, PT_gs, ZT_gs, NT_gs, ET_gs])
  · have hx := ixe hp.1.1
    (refine nx1_ok C cut_X7_demand 1000 ?_; simp only [w_X7_demand, ops_eq, xst_eq, call_eq, oK_eq, Option.toList_some, Option.toList_none, List.cons_append, List.nil_append, List.length_cons, List.length_nil, true_and, and_true, Nat.reduceAdd, aW_F, aW_A, aW_P, aW_w, abs_eq, O_asti_eq, v170, cl_eq, ST_id, MT_gs, ST_gs, PT_gs, ZT_gs, NT_gs, ET_gs, se_X7_takes, hx, cl_eq])
    ((repeat' (with_reducible first | apply And.intro | intro _)) <;> simp_all [ST_id, MT_gs, ST_gs, PT_gs, ZT_gs, NT_gs, ET_gs])
def spc_X7_demand (S : ST) (M : MT) (fl : Bool)  (K : Option Value → QT → Prop) : Prop := (S.Z.ok ∧ S.Z.bits) ∧ K (some (.int (S.demand))) ((S, M, fl))
def sp_X7_demand : Sp QT := fun av q K => match av with
  | [.ref 0] => spc_X7_demand q.1 q.2.1 q.2.2  K
  | _ => False
theorem se_X7_demand (S : ST) (M : MT) (fl : Bool)  (K : Option Value → QT → Prop) : sp_X7_demand [.ref 0] (S, M, fl) K = ((S.Z.ok ∧ S.Z.bits) ∧ K (some (.int (S.demand))) ((S, M, fl))) := rfl
theorem spok_X7_demand : SpOk yX7_demand cX7_demand 3 (some .int) 2 aW sp_X7_demand := by
  intro av q K h
  unfold sp_X7_demand at h
  split at h
  · refine ⟨_, _, ?_, con_X7_demand q.1 q.2.1 q.2.2  h.1, h.2⟩; trivial
  · exact h.elim
def cod_X7_minuteOfDay : List (Nat × Op QT) := [(0, O_aload 0 1), (1, O_getf aW 7 0), (4, O_int 0 1), (5, O_ald aW 0), (6, O_int 1440 3), (9, O_irem), (10, O_iret)]
abbrev cut_X7_minuteOfDay : List Nat := []
set_option maxRecDepth 100000 in
theorem okc_X7_minuteOfDay {E : En} (F : Fx E RX7 cX7_minuteOfDay 1 0) (G : Fr E (some .int)) : CodOk E aW cod_X7_minuteOfDay := by
  unfold CodOk cod_X7_minuteOfDay
  refine List.forall_mem_cons.mpr ⟨ok_aload_n F dX7_minuteOfDay_0 rfl (by decide), ?_⟩
  refine List.forall_mem_cons.mpr ⟨ok_getf F flX7_7 dX7_minuteOfDay_1 (by decide), ?_⟩
  refine List.forall_mem_cons.mpr ⟨ok_iconst F dX7_minuteOfDay_4 (by decide) (by decide), ?_⟩
  refine List.forall_mem_cons.mpr ⟨ok_iald F dX7_minuteOfDay_5 (by decide), ?_⟩
  refine List.forall_mem_cons.mpr ⟨ok_sipush F dX7_minuteOfDay_6 (by decide) (by decide), ?_⟩
  refine List.forall_mem_cons.mpr ⟨ok_irem F dX7_minuteOfDay_9 (by decide), ?_⟩
  refine List.forall_mem_cons.mpr ⟨ok_iret F G dX7_minuteOfDay_10 (by decide), ?_⟩
  exact fun _ h => absurd h List.not_mem_nil
set_option maxRecDepth 100000 in
theorem w_X7_minuteOfDay : (∀ (K : Kt QT) (n : Nat) (L : xL) (st : List Value) (S : QT), nx cod_X7_minuteOfDay cut_X7_minuteOfDay K (n + 1) 0 L st S = (O_aload 0 1) (nx cod_X7_minuteOfDay cut_X7_minuteOfDay K n) 0 L st S) ∧
  (∀ (K : Kt QT) (n : Nat) (L : xL) (st : List Value) (S : QT), nx cod_X7_minuteOfDay cut_X7_minuteOfDay K (n + 1) 1 L st S = (O_getf aW 7 0) (nx cod_X7_minuteOfDay cut_X7_minuteOfDay K n) 1 L st S) ∧
  (∀ (K : Kt QT) (n : Nat) (L : xL) (st : List Value) (S : QT), nx cod_X7_minuteOfDay cut_X7_minuteOfDay K (n + 1) 4 L st S = (O_int 0 1) (nx cod_X7_minuteOfDay cut_X7_minuteOfDay K n) 4 L st S) ∧
  (∀ (K : Kt QT) (n : Nat) (L : xL) (st : List Value) (S : QT), nx cod_X7_minuteOfDay cut_X7_minuteOfDay K (n + 1) 5 L st S = (O_ald aW 0) (nx cod_X7_minuteOfDay cut_X7_minuteOfDay K n) 5 L st S) ∧
  (∀ (K : Kt QT) (n : Nat) (L : xL) (st : List Value) (S : QT), nx cod_X7_minuteOfDay cut_X7_minuteOfDay K (n + 1) 6 L st S = (O_int 1440 3) (nx cod_X7_minuteOfDay cut_X7_minuteOfDay K n) 6 L st S) ∧
  (∀ (K : Kt QT) (n : Nat) (L : xL) (st : List Value) (S : QT), nx cod_X7_minuteOfDay cut_X7_minuteOfDay K (n + 1) 9 L st S = (O_irem) (nx cod_X7_minuteOfDay cut_X7_minuteOfDay K n) 9 L st S) ∧
  (∀ (K : Kt QT) (n : Nat) (L : xL) (st : List Value) (S : QT), nx cod_X7_minuteOfDay cut_X7_minuteOfDay K (n + 1) 10 L st S = (O_iret) (nx cod_X7_minuteOfDay cut_X7_minuteOfDay K n) 10 L st S) ∧
  (∀ (K : Kt QT) (n : Nat) (L : xL) (st : List Value) (S : QT), nx cod_X7_minuteOfDay cut_X7_minuteOfDay K (n + 1) 100000 L st S = K 100000 L st S) := by
  repeat' apply And.intro
  all_goals (intros; rfl)
set_option maxRecDepth 100000 in
theorem mk_X7_minuteOfDay {P P' : QT} {r : Option Value}  (body : ∀ E : En, CodOk E aW cod_X7_minuteOfDay → Gd E aW 100000 [] r.toList P' → Gd E aW 0 [some (.ref 0)] [] P) : Con yX7_minuteOfDay cX7_minuteOfDay 1 (some .int) 0 aW [.ref 0] P r P' :=
  Con.of (by decide) ((aW_len P').trans (aW_len P).symm) rfl (Nat.le_of_ble_eq_true rfl) (fun E F G hr => body E (okc_X7_minuteOfDay F G) hr)
set_option maxRecDepth 10000 in
theorem con_X7_minuteOfDay (S : ST) (M : MT) (fl : Bool)  : Con yX7_minuteOfDay cX7_minuteOfDay 1 (some .int) 0 aW [.ref 0] (S, M, fl) (some (.int (S.time % 1440))) ((S, M, fl)) := by
  refine mk_X7_minuteOfDay (fun E C hr => ?_)
  (refine nx_ok C (cuts := cut_X7_minuteOfDay) 1000 _ _ _ _ ?_; simp only [w_X7_minuteOfDay, ops_eq, xst_eq, call_eq, oK_eq, Option.toList_some, Option.toList_none, List.cons_append, List.nil_append, List.length_cons, List.length_nil, true_and, and_true, Nat.reduceAdd, aW_F, aW_A, aW_P, aW_w, abs_eq, O_asti_eq, v170, cl_eq, ST_id, MT_gs, ST_gs, PT_gs, ZT_gs, NT_gs, ET_gs, cl_eq, dv_eq, rem_eq])
  ((repeat' (with_reducible first | apply And.intro | intro _)) <;> simp_all [ST_id, MT_gs, ST_gs, PT_gs, ZT_gs, NT_gs, ET_gs])
def spc_X7_minuteOfDay (S : ST) (M : MT) (fl : Bool)  (K : Option Value → QT → Prop) : Prop := K (some (.int (S.time % 1440))) ((S, M, fl))
def sp_X7_minuteOfDay : Sp QT := fun av q K => match av with
  | [.ref 0] => spc_X7_minuteOfDay q.1 q.2.1 q.2.2  K
  | _ => False
theorem se_X7_minuteOfDay (S : ST) (M : MT) (fl : Bool)  (K : Option Value → QT → Prop) : sp_X7_minuteOfDay [.ref 0] (S, M, fl) K = (K (some (.int (S.time % 1440))) ((S, M, fl))) := rfl
theorem spok_X7_minuteOfDay : SpOk yX7_minuteOfDay cX7_minuteOfDay 1 (some .int) 0 aW sp_X7_minuteOfDay := by
  intro av q K h
  unfold sp_X7_minuteOfDay at h
  split at h
  · refine ⟨_, _, ?_, con_X7_minuteOfDay q.1 q.2.1 q.2.2 , h⟩; trivial
  · exact h.elim
theorem ZT.kp_size {m : Int32} {i : Nat} (T : ZT) : (ZT.kp m i T).size = T.size ∧ (ZT.kp m i T).programmes = T.programmes ∧ (ZT.kp m i T).pzones = T.pzones := by
  unfold ZT.kp
  repeat' split
  all_goals exact ⟨rfl, rfl, rfl⟩
def cod_X7_programmes : List (Nat × Op QT) := [(0, O_aload 0 1), (1, O_callV 0 0 (fun S => S) (fun _ S' => S') sp_X7_minuteOfDay), (4, O_istore 1 1), (5, O_int 0 1), (6, O_istore 2 1), (7, O_iload 2 1), (8, O_aload 0 1), (9, O_getf aW 7 0), (12, O_int 16 2), (14, O_ald aW 0), (15, O_icmp_ge 92), (18, O_int 103 2), (20, O_int 3 1), (21, O_iload 2 1), (22, O_imul), (23, O_iadd), (24, O_istore 3 1), (25, O_int 87 2), (27, O_int 2 1), (28, O_aload 0 1), (29, O_getf aW 7 0), (32, O_iload 3 1), (33, O_ald aW 0), (34, O_imul), (35, O_iadd), (36, O_int 1 1), (37, O_iadd), (38, O_istore 4 2), (40, O_aload 0 1), (41, O_getf aW 7 0), (44, O_iload 4 2), (46, O_aload 0 1), (47, O_getf aW 7 0), (50, O_iload 3 1), (51, O_int 1 1), (52, O_iadd), (53, O_ald aW 0), (54, O_iload 1 1), (55, O_icmp_ne 62), (58, O_int 1 1), (59, O_goto 85), (62, O_aload 0 1), (63, O_getf aW 7 0), (66, O_iload 3 1), (67, O_int 2 1), (68, O_iadd), (69, O_ald aW 0), (70, O_iload 1 1), (71, O_icmp_ne 78), (74, O_int 0 1), (75, O_goto 85), (78, O_aload 0 1), (79, O_getf aW 7 0), (82, O_iload 4 2), (84, O_ald aW 0), (85, O_asti aW aW_wi), (86, O_iinc 2 1), (89, O_goto 7), (92, O_vret)]
abbrev cut_X7_programmes : List Nat := [7]
set_option maxRecDepth 100000 in
theorem okc_X7_programmes {E : En} (F : Fx E RX7 cX7_programmes 5 1) (G : Fr E none) : CodOk E aW cod_X7_programmes := by
  unfold CodOk cod_X7_programmes
  refine List.forall_mem_cons.mpr ⟨ok_aload_n F dX7_programmes_0 rfl (by decide), ?_⟩
  refine List.forall_mem_cons.mpr ⟨ok_callV F spok_X7_minuteOfDay (ln_id aW) rcv_aW (by decide +kernel) (by decide) dX7_programmes_1 (by decide), ?_⟩
  refine List.forall_mem_cons.mpr ⟨ok_istore_n F dX7_programmes_4 rfl (by decide) (by decide), ?_⟩
  refine List.forall_mem_cons.mpr ⟨ok_iconst F dX7_programmes_5 (by decide) (by decide), ?_⟩
  refine List.forall_mem_cons.mpr ⟨ok_istore_n F dX7_programmes_6 rfl (by decide) (by decide), ?_⟩
  refine List.forall_mem_cons.mpr ⟨ok_iload_n F dX7_programmes_7 rfl (by decide), ?_⟩
  refine List.forall_mem_cons.mpr ⟨ok_aload_n F dX7_programmes_8 rfl (by decide), ?_⟩
  refine List.forall_mem_cons.mpr ⟨ok_getf F flX7_7 dX7_programmes_9 (by decide), ?_⟩
  refine List.forall_mem_cons.mpr ⟨ok_bipush F dX7_programmes_12 (by decide) (by decide), ?_⟩
  refine List.forall_mem_cons.mpr ⟨ok_iald F dX7_programmes_14 (by decide), ?_⟩
  refine List.forall_mem_cons.mpr ⟨ok_icmp_ge F dX7_programmes_15 (by decide) (by decide) (by decide), ?_⟩
  refine List.forall_mem_cons.mpr ⟨ok_bipush F dX7_programmes_18 (by decide) (by decide), ?_⟩
  refine List.forall_mem_cons.mpr ⟨ok_iconst F dX7_programmes_20 (by decide) (by decide), ?_⟩
  refine List.forall_mem_cons.mpr ⟨ok_iload_n F dX7_programmes_21 rfl (by decide), ?_⟩
  refine List.forall_mem_cons.mpr ⟨ok_imul F dX7_programmes_22 (by decide), ?_⟩
  refine List.forall_mem_cons.mpr ⟨ok_iadd F dX7_programmes_23 (by decide), ?_⟩
  refine List.forall_mem_cons.mpr ⟨ok_istore_n F dX7_programmes_24 rfl (by decide) (by decide), ?_⟩
  refine List.forall_mem_cons.mpr ⟨ok_bipush F dX7_programmes_25 (by decide) (by decide), ?_⟩
  refine List.forall_mem_cons.mpr ⟨ok_iconst F dX7_programmes_27 (by decide) (by decide), ?_⟩
  refine List.forall_mem_cons.mpr ⟨ok_aload_n F dX7_programmes_28 rfl (by decide), ?_⟩
  refine List.forall_mem_cons.mpr ⟨ok_getf F flX7_7 dX7_programmes_29 (by decide), ?_⟩
  refine List.forall_mem_cons.mpr ⟨ok_iload_n F dX7_programmes_32 rfl (by decide), ?_⟩
  refine List.forall_mem_cons.mpr ⟨ok_iald F dX7_programmes_33 (by decide), ?_⟩
  refine List.forall_mem_cons.mpr ⟨ok_imul F dX7_programmes_34 (by decide), ?_⟩
  refine List.forall_mem_cons.mpr ⟨ok_iadd F dX7_programmes_35 (by decide), ?_⟩
  refine List.forall_mem_cons.mpr ⟨ok_iconst F dX7_programmes_36 (by decide) (by decide), ?_⟩
  refine List.forall_mem_cons.mpr ⟨ok_iadd F dX7_programmes_37 (by decide), ?_⟩
  refine List.forall_mem_cons.mpr ⟨ok_istore F dX7_programmes_38 (by decide) (by decide), ?_⟩
  refine List.forall_mem_cons.mpr ⟨ok_aload_n F dX7_programmes_40 rfl (by decide), ?_⟩
  refine List.forall_mem_cons.mpr ⟨ok_getf F flX7_7 dX7_programmes_41 (by decide), ?_⟩
  refine List.forall_mem_cons.mpr ⟨ok_iload F dX7_programmes_44 (by decide), ?_⟩
  refine List.forall_mem_cons.mpr ⟨ok_aload_n F dX7_programmes_46 rfl (by decide), ?_⟩
  refine List.forall_mem_cons.mpr ⟨ok_getf F flX7_7 dX7_programmes_47 (by decide), ?_⟩
  refine List.forall_mem_cons.mpr ⟨ok_iload_n F dX7_programmes_50 rfl (by decide), ?_⟩
  refine List.forall_mem_cons.mpr ⟨ok_iconst F dX7_programmes_51 (by decide) (by decide), ?_⟩
  refine List.forall_mem_cons.mpr ⟨ok_iadd F dX7_programmes_52 (by decide), ?_⟩
  refine List.forall_mem_cons.mpr ⟨ok_iald F dX7_programmes_53 (by decide), ?_⟩
  refine List.forall_mem_cons.mpr ⟨ok_iload_n F dX7_programmes_54 rfl (by decide), ?_⟩
  refine List.forall_mem_cons.mpr ⟨ok_icmp_ne F dX7_programmes_55 (by decide) (by decide) (by decide), ?_⟩
  refine List.forall_mem_cons.mpr ⟨ok_iconst F dX7_programmes_58 (by decide) (by decide), ?_⟩
  refine List.forall_mem_cons.mpr ⟨ok_goto F dX7_programmes_59 (by decide) (by decide) (by decide), ?_⟩
  refine List.forall_mem_cons.mpr ⟨ok_aload_n F dX7_programmes_62 rfl (by decide), ?_⟩
  refine List.forall_mem_cons.mpr ⟨ok_getf F flX7_7 dX7_programmes_63 (by decide), ?_⟩
  refine List.forall_mem_cons.mpr ⟨ok_iload_n F dX7_programmes_66 rfl (by decide), ?_⟩
  refine List.forall_mem_cons.mpr ⟨ok_iconst F dX7_programmes_67 (by decide) (by decide), ?_⟩
  refine List.forall_mem_cons.mpr ⟨ok_iadd F dX7_programmes_68 (by decide), ?_⟩
  refine List.forall_mem_cons.mpr ⟨ok_iald F dX7_programmes_69 (by decide), ?_⟩
  refine List.forall_mem_cons.mpr ⟨ok_iload_n F dX7_programmes_70 rfl (by decide), ?_⟩
  refine List.forall_mem_cons.mpr ⟨ok_icmp_ne F dX7_programmes_71 (by decide) (by decide) (by decide), ?_⟩
  refine List.forall_mem_cons.mpr ⟨ok_iconst F dX7_programmes_74 (by decide) (by decide), ?_⟩
  refine List.forall_mem_cons.mpr ⟨ok_goto F dX7_programmes_75 (by decide) (by decide) (by decide), ?_⟩
  refine List.forall_mem_cons.mpr ⟨ok_aload_n F dX7_programmes_78 rfl (by decide), ?_⟩
  refine List.forall_mem_cons.mpr ⟨ok_getf F flX7_7 dX7_programmes_79 (by decide), ?_⟩
  refine List.forall_mem_cons.mpr ⟨ok_iload F dX7_programmes_82 (by decide), ?_⟩
  refine List.forall_mem_cons.mpr ⟨ok_iald F dX7_programmes_84 (by decide), ?_⟩
  refine List.forall_mem_cons.mpr ⟨ok_asti F aW_wok dX7_programmes_85 (by decide), ?_⟩
  refine List.forall_mem_cons.mpr ⟨ok_iinc F dX7_programmes_86 (by decide) (by decide) (by decide), ?_⟩
  refine List.forall_mem_cons.mpr ⟨ok_goto F dX7_programmes_89 (by decide) (by decide) (by decide), ?_⟩
  refine List.forall_mem_cons.mpr ⟨ok_vret F G dX7_programmes_92 (by decide), ?_⟩
  exact fun _ h => absurd h List.not_mem_nil
set_option maxRecDepth 100000 in
theorem w_X7_programmes : (∀ (K : Kt QT) (n : Nat) (L : xL) (st : List Value) (S : QT), nx cod_X7_programmes cut_X7_programmes K (n + 1) 0 L st S = (O_aload 0 1) (nx cod_X7_programmes cut_X7_programmes K n) 0 L st S) ∧
  (∀ (K : Kt QT) (n : Nat) (L : xL) (st : List Value) (S : QT), nx cod_X7_programmes cut_X7_programmes K (n + 1) 1 L st S = (O_callV 0 0 (fun S => S) (fun _ S' => S') sp_X7_minuteOfDay) (nx cod_X7_programmes cut_X7_programmes K n) 1 L st S) ∧
  (∀ (K : Kt QT) (n : Nat) (L : xL) (st : List Value) (S : QT), nx cod_X7_programmes cut_X7_programmes K (n + 1) 4 L st S = (O_istore 1 1) (nx cod_X7_programmes cut_X7_programmes K n) 4 L st S) ∧
  (∀ (K : Kt QT) (n : Nat) (L : xL) (st : List Value) (S : QT), nx cod_X7_programmes cut_X7_programmes K (n + 1) 5 L st S = (O_int 0 1) (nx cod_X7_programmes cut_X7_programmes K n) 5 L st S) ∧
  (∀ (K : Kt QT) (n : Nat) (L : xL) (st : List Value) (S : QT), nx cod_X7_programmes cut_X7_programmes K (n + 1) 6 L st S = (O_istore 2 1) (nx cod_X7_programmes cut_X7_programmes K n) 6 L st S) ∧
  (∀ (K : Kt QT) (n : Nat) (L : xL) (st : List Value) (S : QT), nx cod_X7_programmes cut_X7_programmes K (n + 1) 7 L st S = K 7 L st S) ∧
  (∀ (K : Kt QT) (n : Nat) (L : xL) (st : List Value) (S : QT), nx1 cod_X7_programmes cut_X7_programmes K n 7 L st S = (O_iload 2 1) (nx cod_X7_programmes cut_X7_programmes K n) 7 L st S) ∧
  (∀ (K : Kt QT) (n : Nat) (L : xL) (st : List Value) (S : QT), nx cod_X7_programmes cut_X7_programmes K (n + 1) 8 L st S = (O_aload 0 1) (nx cod_X7_programmes cut_X7_programmes K n) 8 L st S) ∧
  (∀ (K : Kt QT) (n : Nat) (L : xL) (st : List Value) (S : QT), nx cod_X7_programmes cut_X7_programmes K (n + 1) 9 L st S = (O_getf aW 7 0) (nx cod_X7_programmes cut_X7_programmes K n) 9 L st S) ∧
  (∀ (K : Kt QT) (n : Nat) (L : xL) (st : List Value) (S : QT), nx cod_X7_programmes cut_X7_programmes K (n + 1) 12 L st S = (O_int 16 2) (nx cod_X7_programmes cut_X7_programmes K n) 12 L st S) ∧
  (∀ (K : Kt QT) (n : Nat) (L : xL) (st : List Value) (S : QT), nx cod_X7_programmes cut_X7_programmes K (n + 1) 14 L st S = (O_ald aW 0) (nx cod_X7_programmes cut_X7_programmes K n) 14 L st S) ∧
  (∀ (K : Kt QT) (n : Nat) (L : xL) (st : List Value) (S : QT), nx cod_X7_programmes cut_X7_programmes K (n + 1) 15 L st S = (O_icmp_ge 92) (nx cod_X7_programmes cut_X7_programmes K n) 15 L st S) ∧
  (∀ (K : Kt QT) (n : Nat) (L : xL) (st : List Value) (S : QT), nx cod_X7_programmes cut_X7_programmes K (n + 1) 18 L st S = (O_int 103 2) (nx cod_X7_programmes cut_X7_programmes K n) 18 L st S) ∧
  (∀ (K : Kt QT) (n : Nat) (L : xL) (st : List Value) (S : QT), nx cod_X7_programmes cut_X7_programmes K (n + 1) 20 L st S = (O_int 3 1) (nx cod_X7_programmes cut_X7_programmes K n) 20 L st S) ∧
  (∀ (K : Kt QT) (n : Nat) (L : xL) (st : List Value) (S : QT), nx cod_X7_programmes cut_X7_programmes K (n + 1) 21 L st S = (O_iload 2 1) (nx cod_X7_programmes cut_X7_programmes K n) 21 L st S) ∧
  (∀ (K : Kt QT) (n : Nat) (L : xL) (st : List Value) (S : QT), nx cod_X7_programmes cut_X7_programmes K (n + 1) 22 L st S = (O_imul) (nx cod_X7_programmes cut_X7_programmes K n) 22 L st S) ∧
  (∀ (K : Kt QT) (n : Nat) (L : xL) (st : List Value) (S : QT), nx cod_X7_programmes cut_X7_programmes K (n + 1) 23 L st S = (O_iadd) (nx cod_X7_programmes cut_X7_programmes K n) 23 L st S) ∧
  (∀ (K : Kt QT) (n : Nat) (L : xL) (st : List Value) (S : QT), nx cod_X7_programmes cut_X7_programmes K (n + 1) 24 L st S = (O_istore 3 1) (nx cod_X7_programmes cut_X7_programmes K n) 24 L st S) ∧
  (∀ (K : Kt QT) (n : Nat) (L : xL) (st : List Value) (S : QT), nx cod_X7_programmes cut_X7_programmes K (n + 1) 25 L st S = (O_int 87 2) (nx cod_X7_programmes cut_X7_programmes K n) 25 L st S) ∧
  (∀ (K : Kt QT) (n : Nat) (L : xL) (st : List Value) (S : QT), nx cod_X7_programmes cut_X7_programmes K (n + 1) 27 L st S = (O_int 2 1) (nx cod_X7_programmes cut_X7_programmes K n) 27 L st S) ∧
  (∀ (K : Kt QT) (n : Nat) (L : xL) (st : List Value) (S : QT), nx cod_X7_programmes cut_X7_programmes K (n + 1) 28 L st S = (O_aload 0 1) (nx cod_X7_programmes cut_X7_programmes K n) 28 L st S) ∧
  (∀ (K : Kt QT) (n : Nat) (L : xL) (st : List Value) (S : QT), nx cod_X7_programmes cut_X7_programmes K (n + 1) 29 L st S = (O_getf aW 7 0) (nx cod_X7_programmes cut_X7_programmes K n) 29 L st S) ∧
  (∀ (K : Kt QT) (n : Nat) (L : xL) (st : List Value) (S : QT), nx cod_X7_programmes cut_X7_programmes K (n + 1) 32 L st S = (O_iload 3 1) (nx cod_X7_programmes cut_X7_programmes K n) 32 L st S) ∧
  (∀ (K : Kt QT) (n : Nat) (L : xL) (st : List Value) (S : QT), nx cod_X7_programmes cut_X7_programmes K (n + 1) 33 L st S = (O_ald aW 0) (nx cod_X7_programmes cut_X7_programmes K n) 33 L st S) ∧
  (∀ (K : Kt QT) (n : Nat) (L : xL) (st : List Value) (S : QT), nx cod_X7_programmes cut_X7_programmes K (n + 1) 34 L st S = (O_imul) (nx cod_X7_programmes cut_X7_programmes K n) 34 L st S) ∧
  (∀ (K : Kt QT) (n : Nat) (L : xL) (st : List Value) (S : QT), nx cod_X7_programmes cut_X7_programmes K (n + 1) 35 L st S = (O_iadd) (nx cod_X7_programmes cut_X7_programmes K n) 35 L st S) ∧
  (∀ (K : Kt QT) (n : Nat) (L : xL) (st : List Value) (S : QT), nx cod_X7_programmes cut_X7_programmes K (n + 1) 36 L st S = (O_int 1 1) (nx cod_X7_programmes cut_X7_programmes K n) 36 L st S) ∧
  (∀ (K : Kt QT) (n : Nat) (L : xL) (st : List Value) (S : QT), nx cod_X7_programmes cut_X7_programmes K (n + 1) 37 L st S = (O_iadd) (nx cod_X7_programmes cut_X7_programmes K n) 37 L st S) ∧
  (∀ (K : Kt QT) (n : Nat) (L : xL) (st : List Value) (S : QT), nx cod_X7_programmes cut_X7_programmes K (n + 1) 38 L st S = (O_istore 4 2) (nx cod_X7_programmes cut_X7_programmes K n) 38 L st S) ∧
  (∀ (K : Kt QT) (n : Nat) (L : xL) (st : List Value) (S : QT), nx cod_X7_programmes cut_X7_programmes K (n + 1) 40 L st S = (O_aload 0 1) (nx cod_X7_programmes cut_X7_programmes K n) 40 L st S) ∧
  (∀ (K : Kt QT) (n : Nat) (L : xL) (st : List Value) (S : QT), nx cod_X7_programmes cut_X7_programmes K (n + 1) 41 L st S = (O_getf aW 7 0) (nx cod_X7_programmes cut_X7_programmes K n) 41 L st S) ∧
  (∀ (K : Kt QT) (n : Nat) (L : xL) (st : List Value) (S : QT), nx cod_X7_programmes cut_X7_programmes K (n + 1) 44 L st S = (O_iload 4 2) (nx cod_X7_programmes cut_X7_programmes K n) 44 L st S) ∧
  (∀ (K : Kt QT) (n : Nat) (L : xL) (st : List Value) (S : QT), nx cod_X7_programmes cut_X7_programmes K (n + 1) 46 L st S = (O_aload 0 1) (nx cod_X7_programmes cut_X7_programmes K n) 46 L st S) ∧
  (∀ (K : Kt QT) (n : Nat) (L : xL) (st : List Value) (S : QT), nx cod_X7_programmes cut_X7_programmes K (n + 1) 47 L st S = (O_getf aW 7 0) (nx cod_X7_programmes cut_X7_programmes K n) 47 L st S) ∧
  (∀ (K : Kt QT) (n : Nat) (L : xL) (st : List Value) (S : QT), nx cod_X7_programmes cut_X7_programmes K (n + 1) 50 L st S = (O_iload 3 1) (nx cod_X7_programmes cut_X7_programmes K n) 50 L st S) ∧
  (∀ (K : Kt QT) (n : Nat) (L : xL) (st : List Value) (S : QT), nx cod_X7_programmes cut_X7_programmes K (n + 1) 51 L st S = (O_int 1 1) (nx cod_X7_programmes cut_X7_programmes K n) 51 L st S) ∧
  (∀ (K : Kt QT) (n : Nat) (L : xL) (st : List Value) (S : QT), nx cod_X7_programmes cut_X7_programmes K (n + 1) 52 L st S = (O_iadd) (nx cod_X7_programmes cut_X7_programmes K n) 52 L st S) ∧
  (∀ (K : Kt QT) (n : Nat) (L : xL) (st : List Value) (S : QT), nx cod_X7_programmes cut_X7_programmes K (n + 1) 53 L st S = (O_ald aW 0) (nx cod_X7_programmes cut_X7_programmes K n) 53 L st S) ∧
  (∀ (K : Kt QT) (n : Nat) (L : xL) (st : List Value) (S : QT), nx cod_X7_programmes cut_X7_programmes K (n + 1) 54 L st S = (O_iload 1 1) (nx cod_X7_programmes cut_X7_programmes K n) 54 L st S) ∧
  (∀ (K : Kt QT) (n : Nat) (L : xL) (st : List Value) (S : QT), nx cod_X7_programmes cut_X7_programmes K (n + 1) 55 L st S = (O_icmp_ne 62) (nx cod_X7_programmes cut_X7_programmes K n) 55 L st S) ∧
  (∀ (K : Kt QT) (n : Nat) (L : xL) (st : List Value) (S : QT), nx cod_X7_programmes cut_X7_programmes K (n + 1) 58 L st S = (O_int 1 1) (nx cod_X7_programmes cut_X7_programmes K n) 58 L st S) ∧
  (∀ (K : Kt QT) (n : Nat) (L : xL) (st : List Value) (S : QT), nx cod_X7_programmes cut_X7_programmes K (n + 1) 59 L st S = (O_goto 85) (nx cod_X7_programmes cut_X7_programmes K n) 59 L st S) ∧
  (∀ (K : Kt QT) (n : Nat) (L : xL) (st : List Value) (S : QT), nx cod_X7_programmes cut_X7_programmes K (n + 1) 62 L st S = (O_aload 0 1) (nx cod_X7_programmes cut_X7_programmes K n) 62 L st S) ∧
  (∀ (K : Kt QT) (n : Nat) (L : xL) (st : List Value) (S : QT), nx cod_X7_programmes cut_X7_programmes K (n + 1) 63 L st S = (O_getf aW 7 0) (nx cod_X7_programmes cut_X7_programmes K n) 63 L st S) ∧
  (∀ (K : Kt QT) (n : Nat) (L : xL) (st : List Value) (S : QT), nx cod_X7_programmes cut_X7_programmes K (n + 1) 66 L st S = (O_iload 3 1) (nx cod_X7_programmes cut_X7_programmes K n) 66 L st S) ∧
  (∀ (K : Kt QT) (n : Nat) (L : xL) (st : List Value) (S : QT), nx cod_X7_programmes cut_X7_programmes K (n + 1) 67 L st S = (O_int 2 1) (nx cod_X7_programmes cut_X7_programmes K n) 67 L st S) ∧
  (∀ (K : Kt QT) (n : Nat) (L : xL) (st : List Value) (S : QT), nx cod_X7_programmes cut_X7_programmes K (n + 1) 68 L st S = (O_iadd) (nx cod_X7_programmes cut_X7_programmes K n) 68 L st S) ∧
  (∀ (K : Kt QT) (n : Nat) (L : xL) (st : List Value) (S : QT), nx cod_X7_programmes cut_X7_programmes K (n + 1) 69 L st S = (O_ald aW 0) (nx cod_X7_programmes cut_X7_programmes K n) 69 L st S) ∧
  (∀ (K : Kt QT) (n : Nat) (L : xL) (st : List Value) (S : QT), nx cod_X7_programmes cut_X7_programmes K (n + 1) 70 L st S = (O_iload 1 1) (nx cod_X7_programmes cut_X7_programmes K n) 70 L st S) ∧
  (∀ (K : Kt QT) (n : Nat) (L : xL) (st : List Value) (S : QT), nx cod_X7_programmes cut_X7_programmes K (n + 1) 71 L st S = (O_icmp_ne 78) (nx cod_X7_programmes cut_X7_programmes K n) 71 L st S) ∧
  (∀ (K : Kt QT) (n : Nat) (L : xL) (st : List Value) (S : QT), nx cod_X7_programmes cut_X7_programmes K (n + 1) 74 L st S = (O_int 0 1) (nx cod_X7_programmes cut_X7_programmes K n) 74 L st S) ∧
  (∀ (K : Kt QT) (n : Nat) (L : xL) (st : List Value) (S : QT), nx cod_X7_programmes cut_X7_programmes K (n + 1) 75 L st S = (O_goto 85) (nx cod_X7_programmes cut_X7_programmes K n) 75 L st S) ∧
  (∀ (K : Kt QT) (n : Nat) (L : xL) (st : List Value) (S : QT), nx cod_X7_programmes cut_X7_programmes K (n + 1) 78 L st S = (O_aload 0 1) (nx cod_X7_programmes cut_X7_programmes K n) 78 L st S) ∧
  (∀ (K : Kt QT) (n : Nat) (L : xL) (st : List Value) (S : QT), nx cod_X7_programmes cut_X7_programmes K (n + 1) 79 L st S = (O_getf aW 7 0) (nx cod_X7_programmes cut_X7_programmes K n) 79 L st S) ∧
  (∀ (K : Kt QT) (n : Nat) (L : xL) (st : List Value) (S : QT), nx cod_X7_programmes cut_X7_programmes K (n + 1) 82 L st S = (O_iload 4 2) (nx cod_X7_programmes cut_X7_programmes K n) 82 L st S) ∧
  (∀ (K : Kt QT) (n : Nat) (L : xL) (st : List Value) (S : QT), nx cod_X7_programmes cut_X7_programmes K (n + 1) 84 L st S = (O_ald aW 0) (nx cod_X7_programmes cut_X7_programmes K n) 84 L st S) ∧
  (∀ (K : Kt QT) (n : Nat) (L : xL) (st : List Value) (S : QT), nx cod_X7_programmes cut_X7_programmes K (n + 1) 85 L st S = (O_asti aW aW_wi) (nx cod_X7_programmes cut_X7_programmes K n) 85 L st S) ∧
  (∀ (K : Kt QT) (n : Nat) (L : xL) (st : List Value) (S : QT), nx cod_X7_programmes cut_X7_programmes K (n + 1) 86 L st S = (O_iinc 2 1) (nx cod_X7_programmes cut_X7_programmes K n) 86 L st S) ∧
  (∀ (K : Kt QT) (n : Nat) (L : xL) (st : List Value) (S : QT), nx cod_X7_programmes cut_X7_programmes K (n + 1) 89 L st S = (O_goto 7) (nx cod_X7_programmes cut_X7_programmes K n) 89 L st S) ∧
  (∀ (K : Kt QT) (n : Nat) (L : xL) (st : List Value) (S : QT), nx cod_X7_programmes cut_X7_programmes K (n + 1) 92 L st S = (O_vret) (nx cod_X7_programmes cut_X7_programmes K n) 92 L st S) ∧
  (∀ (K : Kt QT) (n : Nat) (L : xL) (st : List Value) (S : QT), nx cod_X7_programmes cut_X7_programmes K (n + 1) 100000 L st S = K 100000 L st S) := by
  repeat' apply And.intro
  all_goals (intros; rfl)
set_option maxRecDepth 100000 in
theorem mk_X7_programmes {P P' : QT} {r : Option Value}  (body : ∀ E : En, CodOk E aW cod_X7_programmes → Gd E aW 100000 [] r.toList P' → Gd E aW 0 [some (.ref 0), none, none, none, none] [] P) : Con yX7_programmes cX7_programmes 5 none 1 aW [.ref 0] P r P' :=
  Con.of (by decide) ((aW_len P').trans (aW_len P).symm) rfl (Nat.le_of_ble_eq_true rfl) (fun E F G hr => body E (okc_X7_programmes F G) hr)
set_option maxRecDepth 10000 in
theorem con_X7_programmes (S : ST) (M : MT) (fl : Bool)  (hp : S.Z.inv) : Con yX7_programmes cX7_programmes 5 none 1 aW [.ref 0] (S, M, fl) (none) ((S.sZ (S.Z.keep (S.time % 1440)), M, fl)) := by
  refine mk_X7_programmes (fun E C hr => ?_)
  have step : Gd E aW 7 [some (.ref 0), some (.int (S.time % 1440)), some (.int (nI 0)), none, none] [] (S, M, fl) → Gd E aW 0 [some (.ref 0), none, none, none, none] [] (S, M, fl) := by
    intro hh
    clear hr
    (refine nx_ok C (cuts := cut_X7_programmes) 1000 _ _ _ _ ?_; simp only [w_X7_programmes, ops_eq, xst_eq, call_eq, oK_eq, Option.toList_some, Option.toList_none, List.cons_append, List.nil_append, List.length_cons, List.length_nil, true_and, and_true, Nat.reduceAdd, aW_F, aW_A, aW_P, aW_w, abs_eq, O_asti_eq, v170, cl_eq, ST_id, MT_gs, ST_gs, PT_gs, ZT_gs, NT_gs, ET_gs, se_X7_minuteOfDay])
    ((repeat' (with_reducible first | apply And.intro | intro _)) <;> simp_all [nI_0, ST_id, MT_gs, ST_gs, PT_gs, ZT_gs, NT_gs, ET_gs])
  refine step ?_
  have key : ∀ q3 q4 : Option Value, Gd E aW 7 [some (.ref 0), some (.int (S.time % 1440)), some (.int (nI 0)), q3, q4] [] (S.sZ S.Z, M, fl) := by
    refine it_up (f := ZT.kp (S.time % 1440)) (n := S.Z.m) (fun _ T => T.inv ∧ T.size = S.Z.size ∧ T.programmes = S.Z.programmes ∧ T.pzones = S.Z.pzones) (fun i T => ∀ q3 q4 : Option Value, Gd E aW 7 [some (.ref 0), some (.int (S.time % 1440)), some (.int (nI i)), q3, q4] [] (S.sZ T, M, fl)) ⟨hp, rfl, rfl, rfl⟩ (fun i T hi hT => ⟨ZT.kp_inv hT.1 _ _, (ZT.kp_size T).1.trans hT.2.1, (ZT.kp_size T).2.1.trans hT.2.2.1, (ZT.kp_size T).2.2.trans hT.2.2.2⟩) (fun i T hi hT hn q3 q4 => ?_) (fun q3 q4 => ?_)
    · have hi8 : i < 8 := by have := hp.1.2.2; omega
      have hx := ixs hp.1.2 hi
      have hz : T.has (T.pzones i) = true := by
        unfold ZT.has
        rw [hT.2.2.2, hT.2.1]
        exact hp.2.2.2 i hi
      obtain ⟨z, hzn, ez, ec⟩ := ZT.has_n hT.1.1 hz
      have hz8 : z < 8 := by have := hT.1.1.1.2; omega
      have hv : vp_in (nI z) 8 := vp_in_nI hz8 (by omega)
      have hTp := hT.2.2.1
      clear hT hr hp
      have hk : ZT.kp (S.time % 1440) i T = if T.opening i = S.time % 1440 then T.sIsOpen (upd T.isOpen z 1) else if T.closing i = S.time % 1440 then T.sIsOpen (upd T.isOpen z 0) else T.sIsOpen (upd T.isOpen z (T.isOpen z)) := by
        unfold ZT.kp
        rw [if_neg (by rw [hz]; decide), ec]
        have : upd T.isOpen z (T.isOpen z) = T.isOpen := by
          funext j
          unfold upd
          split
          · rename_i q; rw [q]
          · rfl
        rw [this]
        rfl
      rw [hk] at hn
      clear hk hz
      obtain ⟨i', hi', ez', e1, e2, e3, e4, e5⟩ := at_zone hv
      obtain rfl : z = i' := by rw [nI_clamp (by omega)] at e1; exact e1
      have e6 := abs_zone (S.sZ T) hz8
      have e7 := at_prog hi8
      have e8 := abs_prog (S.sZ T) hi8
      have e9 := fun x => sn_wr (S.sZ T) M fl (87 + 2 * z + 1) x (by omega) (by omega) (by omega)
      simp only [wr_zone (S.sZ T) hz8, ST_gs] at e9
      simp only [ST_gs] at e6 e8
      clear ez' ec e1 hv
      (refine nx1_ok C cut_X7_programmes 1000 ?_; simp only [w_X7_programmes, ops_eq, xst_eq, call_eq, oK_eq, Option.toList_some, Option.toList_none, List.cons_append, List.nil_append, List.length_cons, List.length_nil, true_and, and_true, Nat.reduceAdd, aW_F, aW_A, aW_P, aW_w, abs_eq, O_asti_eq, v170, cl_eq, ST_id, MT_gs, ST_gs, PT_gs, ZT_gs, NT_gs, ET_gs, se_X7_minuteOfDay, hx, hTp, cl_eq, e2, e3, e4, e5, e6, e7, e8, e9, ez])
      (repeat' (with_reducible first | apply And.intro | intro _)) <;> (try split at hn) <;> simp_all [MT_gs, ST_gs]
    · have hx := ixe hp.1.2
      have hT : (it (ZT.kp (S.time % 1440)) S.Z S.Z.m).programmes = S.Z.programmes := (ZT.keep_like S.Z (S.time % 1440)).2
      (refine nx1_ok C cut_X7_programmes 1000 ?_; simp only [w_X7_programmes, ops_eq, xst_eq, call_eq, oK_eq, Option.toList_some, Option.toList_none, List.cons_append, List.nil_append, List.length_cons, List.length_nil, true_and, and_true, Nat.reduceAdd, aW_F, aW_A, aW_P, aW_w, abs_eq, O_asti_eq, v170, cl_eq, ST_id, MT_gs, ST_gs, PT_gs, ZT_gs, NT_gs, ET_gs, se_X7_minuteOfDay, hx, hT, cl_eq])
      ((repeat' (with_reducible first | apply And.intro | intro _)) <;> simp_all [ZT.keep, ST_id, MT_gs, ST_gs, PT_gs, ZT_gs, NT_gs, ET_gs])
  exact key none none
def spc_X7_programmes (S : ST) (M : MT) (fl : Bool)  (K : Option Value → QT → Prop) : Prop := (S.Z.inv) ∧ K (none) ((S.sZ (S.Z.keep (S.time % 1440)), M, fl))
def sp_X7_programmes : Sp QT := fun av q K => match av with
  | [.ref 0] => spc_X7_programmes q.1 q.2.1 q.2.2  K
  | _ => False
theorem se_X7_programmes (S : ST) (M : MT) (fl : Bool)  (K : Option Value → QT → Prop) : sp_X7_programmes [.ref 0] (S, M, fl) K = ((S.Z.inv) ∧ K (none) ((S.sZ (S.Z.keep (S.time % 1440)), M, fl))) := rfl
theorem spok_X7_programmes : SpOk yX7_programmes cX7_programmes 5 none 1 aW sp_X7_programmes := by
  intro av q K h
  unfold sp_X7_programmes at h
  split at h
  · refine ⟨_, _, ?_, con_X7_programmes q.1 q.2.1 q.2.2  h.1, h.2⟩; trivial
  · exact h.elim
