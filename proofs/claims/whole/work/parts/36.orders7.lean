/-! ===== the reference: orders ===== -/
def MT.pl (M : MT) : Nat := M.place.toNatClampNeg
def MT.tok (M : MT) : Prop := isN M.textLong M.tn 60 ∧ isN M.place M.pl 200
def MT.here (M : MT) : Int32 := if M.place < M.textLong then M.text M.place.toNatClampNeg else -1
theorem tok_pl {M : MT} (h : M.tok) : ¬ M.place < 0 := by
  rw [h.2.1]
  exact nI_pos (by have := h.2.2; omega)
theorem flX7_245 : fldOk RX7 245 7 7 = true := by decide +kernel
def cod_X7_here : List (Nat × Op QT) := [(0, O_aload 0 1), (1, O_getf aW 7 7), (4, O_aload 0 1), (5, O_getf aW 7 6), (8, O_icmp_ge 23), (11, O_aload 0 1), (12, O_getf aW 7 5), (15, O_aload 0 1), (16, O_getf aW 7 7), (19, O_ald aW 0), (20, O_goto 24), (23, O_int (-1) 1), (24, O_iret)]
abbrev cut_X7_here : List Nat := []
set_option maxRecDepth 100000 in
theorem okc_X7_here {E : En} (F : Fx E RX7 cX7_here 1 0) (G : Fr E (some .int)) : CodOk E aW cod_X7_here := by
  unfold CodOk cod_X7_here
  refine List.forall_mem_cons.mpr ⟨ok_aload_n F dX7_here_0 rfl (by decide), ?_⟩
  refine List.forall_mem_cons.mpr ⟨ok_getf F flX7_245 dX7_here_1 (by decide), ?_⟩
  refine List.forall_mem_cons.mpr ⟨ok_aload_n F dX7_here_4 rfl (by decide), ?_⟩
  refine List.forall_mem_cons.mpr ⟨ok_getf F flX7_234 dX7_here_5 (by decide), ?_⟩
  refine List.forall_mem_cons.mpr ⟨ok_icmp_ge F dX7_here_8 (by decide) (by decide) (by decide), ?_⟩
  refine List.forall_mem_cons.mpr ⟨ok_aload_n F dX7_here_11 rfl (by decide), ?_⟩
  refine List.forall_mem_cons.mpr ⟨ok_getf F flX7_19 dX7_here_12 (by decide), ?_⟩
  refine List.forall_mem_cons.mpr ⟨ok_aload_n F dX7_here_15 rfl (by decide), ?_⟩
  refine List.forall_mem_cons.mpr ⟨ok_getf F flX7_245 dX7_here_16 (by decide), ?_⟩
  refine List.forall_mem_cons.mpr ⟨ok_iald F dX7_here_19 (by decide), ?_⟩
  refine List.forall_mem_cons.mpr ⟨ok_goto F dX7_here_20 (by decide) (by decide) (by decide), ?_⟩
  refine List.forall_mem_cons.mpr ⟨ok_iconst F dX7_here_23 (by decide) (by decide), ?_⟩
  refine List.forall_mem_cons.mpr ⟨ok_iret F G dX7_here_24 (by decide), ?_⟩
  exact fun _ h => absurd h List.not_mem_nil
set_option maxRecDepth 100000 in
theorem w_X7_here : (∀ (K : Kt QT) (n : Nat) (L : xL) (st : List Value) (S : QT), nx cod_X7_here cut_X7_here K (n + 1) 0 L st S = (O_aload 0 1) (nx cod_X7_here cut_X7_here K n) 0 L st S) ∧
  (∀ (K : Kt QT) (n : Nat) (L : xL) (st : List Value) (S : QT), nx cod_X7_here cut_X7_here K (n + 1) 1 L st S = (O_getf aW 7 7) (nx cod_X7_here cut_X7_here K n) 1 L st S) ∧
  (∀ (K : Kt QT) (n : Nat) (L : xL) (st : List Value) (S : QT), nx cod_X7_here cut_X7_here K (n + 1) 4 L st S = (O_aload 0 1) (nx cod_X7_here cut_X7_here K n) 4 L st S) ∧
  (∀ (K : Kt QT) (n : Nat) (L : xL) (st : List Value) (S : QT), nx cod_X7_here cut_X7_here K (n + 1) 5 L st S = (O_getf aW 7 6) (nx cod_X7_here cut_X7_here K n) 5 L st S) ∧
  (∀ (K : Kt QT) (n : Nat) (L : xL) (st : List Value) (S : QT), nx cod_X7_here cut_X7_here K (n + 1) 8 L st S = (O_icmp_ge 23) (nx cod_X7_here cut_X7_here K n) 8 L st S) ∧
  (∀ (K : Kt QT) (n : Nat) (L : xL) (st : List Value) (S : QT), nx cod_X7_here cut_X7_here K (n + 1) 11 L st S = (O_aload 0 1) (nx cod_X7_here cut_X7_here K n) 11 L st S) ∧
  (∀ (K : Kt QT) (n : Nat) (L : xL) (st : List Value) (S : QT), nx cod_X7_here cut_X7_here K (n + 1) 12 L st S = (O_getf aW 7 5) (nx cod_X7_here cut_X7_here K n) 12 L st S) ∧
  (∀ (K : Kt QT) (n : Nat) (L : xL) (st : List Value) (S : QT), nx cod_X7_here cut_X7_here K (n + 1) 15 L st S = (O_aload 0 1) (nx cod_X7_here cut_X7_here K n) 15 L st S) ∧
  (∀ (K : Kt QT) (n : Nat) (L : xL) (st : List Value) (S : QT), nx cod_X7_here cut_X7_here K (n + 1) 16 L st S = (O_getf aW 7 7) (nx cod_X7_here cut_X7_here K n) 16 L st S) ∧
  (∀ (K : Kt QT) (n : Nat) (L : xL) (st : List Value) (S : QT), nx cod_X7_here cut_X7_here K (n + 1) 19 L st S = (O_ald aW 0) (nx cod_X7_here cut_X7_here K n) 19 L st S) ∧
  (∀ (K : Kt QT) (n : Nat) (L : xL) (st : List Value) (S : QT), nx cod_X7_here cut_X7_here K (n + 1) 20 L st S = (O_goto 24) (nx cod_X7_here cut_X7_here K n) 20 L st S) ∧
  (∀ (K : Kt QT) (n : Nat) (L : xL) (st : List Value) (S : QT), nx cod_X7_here cut_X7_here K (n + 1) 23 L st S = (O_int (-1) 1) (nx cod_X7_here cut_X7_here K n) 23 L st S) ∧
  (∀ (K : Kt QT) (n : Nat) (L : xL) (st : List Value) (S : QT), nx cod_X7_here cut_X7_here K (n + 1) 24 L st S = (O_iret) (nx cod_X7_here cut_X7_here K n) 24 L st S) ∧
  (∀ (K : Kt QT) (n : Nat) (L : xL) (st : List Value) (S : QT), nx cod_X7_here cut_X7_here K (n + 1) 100000 L st S = K 100000 L st S) := by
  repeat' apply And.intro
  all_goals (intros; rfl)
set_option maxRecDepth 100000 in
theorem mk_X7_here {P P' : QT} {r : Option Value}  (body : ∀ E : En, CodOk E aW cod_X7_here → Gd E aW 100000 [] r.toList P' → Gd E aW 0 [some (.ref 0)] [] P) : Con yX7_here cX7_here 1 (some .int) 0 aW [.ref 0] P r P' :=
  Con.of (by decide) ((aW_len P').trans (aW_len P).symm) rfl (Nat.le_of_ble_eq_true rfl) (fun E F G hr => body E (okc_X7_here F G) hr)
set_option maxRecDepth 10000 in
theorem con_X7_here (S : ST) (M : MT) (fl : Bool)  (hp : M.tok) : Con yX7_here cX7_here 1 (some .int) 0 aW [.ref 0] (S, M, fl) (some (.int (M.here))) ((S, M, fl)) := by
  refine mk_X7_here (fun E C hr => ?_)
  have h0 := tok_pl hp
  by_cases c : M.place < M.textLong
  · have hv := isN_vp hp.1 h0 c
    have e : M.here = M.text M.place.toNatClampNeg := if_pos c
    rw [e] at hr
    clear e hp
    (refine nx_ok C (cuts := cut_X7_here) 1000 _ _ _ _ ?_; simp only [w_X7_here, ops_eq, xst_eq, call_eq, oK_eq, Option.toList_some, Option.toList_none, List.cons_append, List.nil_append, List.length_cons, List.length_nil, true_and, and_true, Nat.reduceAdd, aW_F, aW_A, aW_P, aW_w, abs_eq, O_asti_eq, v170, cl_eq, ST_id, MT_gs, ST_gs, PT_gs, ZT_gs, NT_gs, ET_gs, c, hv])
    ((repeat' (with_reducible first | apply And.intro | intro _)) <;> first | (with_reducible assumption) | (with_reducible exact Nat.zero_le _) | contradiction | (simp only [Option.toList_none, Option.toList_some] at hr; with_reducible assumption) | (simp_all; done) | assumption)
  · have e : M.here = -1 := if_neg c
    rw [e] at hr
    clear e hp
    (refine nx_ok C (cuts := cut_X7_here) 1000 _ _ _ _ ?_; simp only [w_X7_here, ops_eq, xst_eq, call_eq, oK_eq, Option.toList_some, Option.toList_none, List.cons_append, List.nil_append, List.length_cons, List.length_nil, true_and, and_true, Nat.reduceAdd, aW_F, aW_A, aW_P, aW_w, abs_eq, O_asti_eq, v170, cl_eq, ST_id, MT_gs, ST_gs, PT_gs, ZT_gs, NT_gs, ET_gs, c])
    ((repeat' (with_reducible first | apply And.intro | intro _)) <;> first | (with_reducible assumption) | (with_reducible exact Nat.zero_le _) | contradiction | (simp only [Option.toList_none, Option.toList_some] at hr; with_reducible assumption) | (simp_all; done) | assumption)
def spc_X7_here (S : ST) (M : MT) (fl : Bool)  (K : Option Value → QT → Prop) : Prop := (M.tok) ∧ K (some (.int (M.here))) ((S, M, fl))
def sp_X7_here : Sp QT := fun av q K => match av with
  | [.ref 0] => spc_X7_here q.1 q.2.1 q.2.2  K
  | _ => False
theorem se_X7_here (S : ST) (M : MT) (fl : Bool)  (K : Option Value → QT → Prop) : sp_X7_here [.ref 0] (S, M, fl) K = ((M.tok) ∧ K (some (.int (M.here))) ((S, M, fl))) := rfl
theorem spok_X7_here : SpOk yX7_here cX7_here 1 (some .int) 0 aW sp_X7_here := by
  intro av q K h
  unfold sp_X7_here at h
  split at h
  · refine ⟨_, _, ?_, con_X7_here q.1 q.2.1 q.2.2  h.1, h.2⟩; trivial
  · exact h.elim
def MT.digs7 : Nat → MT → MT
  | 0, T => T
  | f + 1, T => if inR T.here 48 57 = true then MT.digs7 f ((T.sNumber (10 * T.number + T.here - 48)).sPlace (T.place + 1)) else T
def let5 (o : Int32) : Bool := decide (o = 111 ∨ o = 99 ∨ o = 115 ∨ o = 112 ∨ o = 114)
def MT.rd2 (M : MT) : MT := ((M.sOrder M.here).sPlace (M.place + 1)).sNumber 0
def MT.rd3 (M : MT) : MT := if M.here = 114 then M.rd2 else MT.digs7 3 M.rd2
def MT.rdo (M : MT) : Bool × MT := if let5 M.here = false then (false, (M.sOrder M.here).sPlace (M.place + 1)) else (decide ((M.here = 114 ∨ M.place + 1 < M.rd3.place) ∧ M.rd3.here = 59), M.rd3.sPlace (M.rd3.place + 1))
theorem tok_pl1 {M : MT} {p : Nat} (h : isN M.textLong M.tn 60) (e : M.place = nI p) (hp : p ≤ 200) : M.tok := by
  have hq : M.pl = p := by
    unfold MT.pl
    rw [e]
    exact nI_clamp (by omega)
  refine ⟨h, ?_⟩
  rw [hq]
  exact ⟨e, hp, by omega⟩
theorem digs7_keep : ∀ (f : Nat) (T : MT), (MT.digs7 f T).text = T.text ∧ (MT.digs7 f T).textLong = T.textLong ∧ (MT.digs7 f T).order = T.order ∧ ∀ p, T.place = nI p → ∃ k, k ≤ f ∧ (MT.digs7 f T).place = nI (p + k)
  | 0, T => ⟨rfl, rfl, rfl, fun p h => ⟨0, Nat.le_refl 0, h⟩⟩
  | f + 1, T => by
    unfold MT.digs7
    split
    · obtain ⟨h1, h2, h3, h4⟩ := digs7_keep f ((T.sNumber (10 * T.number + T.here - 48)).sPlace (T.place + 1))
      refine ⟨h1.trans rfl, h2.trans rfl, h3.trans rfl, fun p h => ?_⟩
      obtain ⟨k, hk, e⟩ := h4 (p + 1) (by show T.place + 1 = _; rw [h, nI_1])
      exact ⟨k + 1, by omega, by rw [e]; congr 1; omega⟩
    · exact ⟨rfl, rfl, rfl, fun p h => ⟨0, Nat.zero_le _, h⟩⟩
theorem flX7_251 : fldOk RX7 251 7 8 = true := by decide +kernel
theorem flX7_254 : fldOk RX7 254 7 9 = true := by decide +kernel
def cod_X7_readsOrder : List (Nat × Op QT) := [(0, O_aload 0 1), (1, O_aload 0 1), (2, O_callV 0 0 (fun S => S) (fun _ S' => S') sp_X7_here), (5, O_puti aW_p7_8), (8, O_aload 0 1), (9, O_dup), (10, O_getf aW 7 7), (13, O_int 1 1), (14, O_iadd), (15, O_puti aW_p7_7), (18, O_aload 0 1), (19, O_getf aW 7 8), (22, O_int 111 2), (24, O_icmp_eq 65), (27, O_aload 0 1), (28, O_getf aW 7 8), (31, O_int 99 2), (33, O_icmp_eq 65), (36, O_aload 0 1), (37, O_getf aW 7 8), (40, O_int 115 2), (42, O_icmp_eq 65), (45, O_aload 0 1), (46, O_getf aW 7 8), (49, O_int 112 2), (51, O_icmp_eq 65), (54, O_aload 0 1), (55, O_getf aW 7 8), (58, O_int 114 2), (60, O_icmp_eq 65), (63, O_int 0 1), (64, O_zret), (65, O_aload 0 1), (66, O_getf aW 7 7), (69, O_istore 1 1), (70, O_aload 0 1), (71, O_int 0 1), (72, O_puti aW_p7_9), (75, O_aload 0 1), (76, O_getf aW 7 8), (79, O_int 114 2), (81, O_icmp_eq 143), (84, O_aload 0 1), (85, O_callV 0 0 (fun S => S) (fun _ S' => S') sp_X7_here), (88, O_i2l), (89, O_long 48 3), (92, O_long 57 3), (95, O_callS 3 sp_X7_in), (98, O_if_eq 143), (101, O_aload 0 1), (102, O_getf aW 7 7), (105, O_iload 1 1), (106, O_int 3 1), (107, O_iadd), (108, O_icmp_ge 143), (111, O_aload 0 1), (112, O_int 10 2), (114, O_aload 0 1), (115, O_getf aW 7 9), (118, O_imul), (119, O_aload 0 1), (120, O_callV 0 0 (fun S => S) (fun _ S' => S') sp_X7_here), (123, O_iadd), (124, O_int 48 2), (126, O_isub), (127, O_puti aW_p7_9), (130, O_aload 0 1), (131, O_dup), (132, O_getf aW 7 7), (135, O_int 1 1), (136, O_iadd), (137, O_puti aW_p7_7), (140, O_goto 75), (143, O_aload 0 1), (144, O_getf aW 7 8), (147, O_int 114 2), (149, O_icmp_eq 160), (152, O_aload 0 1), (153, O_getf aW 7 7), (156, O_iload 1 1), (157, O_icmp_le 173), (160, O_aload 0 1), (161, O_callV 0 0 (fun S => S) (fun _ S' => S') sp_X7_here), (164, O_int 59 2), (166, O_icmp_ne 173), (169, O_int 1 1), (170, O_goto 174), (173, O_int 0 1), (174, O_istore 2 1), (175, O_aload 0 1), (176, O_dup), (177, O_getf aW 7 7), (180, O_int 1 1), (181, O_iadd), (182, O_puti aW_p7_7), (185, O_iload 2 1), (186, O_zret)]
abbrev cut_X7_readsOrder : List Nat := [65, 75, 143, 175]
set_option maxRecDepth 100000 in
theorem okc_X7_readsOrder {E : En} (F : Fx E RX7 cX7_readsOrder 3 1) (G : Fr E (some .boolean)) : CodOk E aW cod_X7_readsOrder := by
  unfold CodOk cod_X7_readsOrder
  refine List.forall_mem_cons.mpr ⟨ok_aload_n F dX7_readsOrder_0 rfl (by decide), ?_⟩
  refine List.forall_mem_cons.mpr ⟨ok_aload_n F dX7_readsOrder_1 rfl (by decide), ?_⟩
  refine List.forall_mem_cons.mpr ⟨ok_callV F spok_X7_here (ln_id aW) rcv_aW (by decide +kernel) (by decide) dX7_readsOrder_2 (by decide), ?_⟩
  refine List.forall_mem_cons.mpr ⟨ok_puti F aW_p7_8_ok (fun _ _ _ h => by cases h; rfl) rfl flX7_251 dX7_readsOrder_5 (by decide), ?_⟩
  refine List.forall_mem_cons.mpr ⟨ok_aload_n F dX7_readsOrder_8 rfl (by decide), ?_⟩
  refine List.forall_mem_cons.mpr ⟨ok_dup F dX7_readsOrder_9 (by decide), ?_⟩
  refine List.forall_mem_cons.mpr ⟨ok_getf F flX7_245 dX7_readsOrder_10 (by decide), ?_⟩
  refine List.forall_mem_cons.mpr ⟨ok_iconst F dX7_readsOrder_13 (by decide) (by decide), ?_⟩
  refine List.forall_mem_cons.mpr ⟨ok_iadd F dX7_readsOrder_14 (by decide), ?_⟩
  refine List.forall_mem_cons.mpr ⟨ok_puti F aW_p7_7_ok (fun _ _ _ h => by cases h; rfl) rfl flX7_245 dX7_readsOrder_15 (by decide), ?_⟩
  refine List.forall_mem_cons.mpr ⟨ok_aload_n F dX7_readsOrder_18 rfl (by decide), ?_⟩
  refine List.forall_mem_cons.mpr ⟨ok_getf F flX7_251 dX7_readsOrder_19 (by decide), ?_⟩
  refine List.forall_mem_cons.mpr ⟨ok_bipush F dX7_readsOrder_22 (by decide) (by decide), ?_⟩
  refine List.forall_mem_cons.mpr ⟨ok_icmp_eq F dX7_readsOrder_24 (by decide) (by decide) (by decide), ?_⟩
  refine List.forall_mem_cons.mpr ⟨ok_aload_n F dX7_readsOrder_27 rfl (by decide), ?_⟩
  refine List.forall_mem_cons.mpr ⟨ok_getf F flX7_251 dX7_readsOrder_28 (by decide), ?_⟩
  refine List.forall_mem_cons.mpr ⟨ok_bipush F dX7_readsOrder_31 (by decide) (by decide), ?_⟩
  refine List.forall_mem_cons.mpr ⟨ok_icmp_eq F dX7_readsOrder_33 (by decide) (by decide) (by decide), ?_⟩
  refine List.forall_mem_cons.mpr ⟨ok_aload_n F dX7_readsOrder_36 rfl (by decide), ?_⟩
  refine List.forall_mem_cons.mpr ⟨ok_getf F flX7_251 dX7_readsOrder_37 (by decide), ?_⟩
  refine List.forall_mem_cons.mpr ⟨ok_bipush F dX7_readsOrder_40 (by decide) (by decide), ?_⟩
  refine List.forall_mem_cons.mpr ⟨ok_icmp_eq F dX7_readsOrder_42 (by decide) (by decide) (by decide), ?_⟩
  refine List.forall_mem_cons.mpr ⟨ok_aload_n F dX7_readsOrder_45 rfl (by decide), ?_⟩
  refine List.forall_mem_cons.mpr ⟨ok_getf F flX7_251 dX7_readsOrder_46 (by decide), ?_⟩
  refine List.forall_mem_cons.mpr ⟨ok_bipush F dX7_readsOrder_49 (by decide) (by decide), ?_⟩
  refine List.forall_mem_cons.mpr ⟨ok_icmp_eq F dX7_readsOrder_51 (by decide) (by decide) (by decide), ?_⟩
  refine List.forall_mem_cons.mpr ⟨ok_aload_n F dX7_readsOrder_54 rfl (by decide), ?_⟩
  refine List.forall_mem_cons.mpr ⟨ok_getf F flX7_251 dX7_readsOrder_55 (by decide), ?_⟩
  refine List.forall_mem_cons.mpr ⟨ok_bipush F dX7_readsOrder_58 (by decide) (by decide), ?_⟩
  refine List.forall_mem_cons.mpr ⟨ok_icmp_eq F dX7_readsOrder_60 (by decide) (by decide) (by decide), ?_⟩
  refine List.forall_mem_cons.mpr ⟨ok_iconst F dX7_readsOrder_63 (by decide) (by decide), ?_⟩
  refine List.forall_mem_cons.mpr ⟨ok_zret F G dX7_readsOrder_64 (by decide), ?_⟩
  refine List.forall_mem_cons.mpr ⟨ok_aload_n F dX7_readsOrder_65 rfl (by decide), ?_⟩
  refine List.forall_mem_cons.mpr ⟨ok_getf F flX7_245 dX7_readsOrder_66 (by decide), ?_⟩
  refine List.forall_mem_cons.mpr ⟨ok_istore_n F dX7_readsOrder_69 rfl (by decide) (by decide), ?_⟩
  refine List.forall_mem_cons.mpr ⟨ok_aload_n F dX7_readsOrder_70 rfl (by decide), ?_⟩
  refine List.forall_mem_cons.mpr ⟨ok_iconst F dX7_readsOrder_71 (by decide) (by decide), ?_⟩
  refine List.forall_mem_cons.mpr ⟨ok_puti F aW_p7_9_ok (fun _ _ _ h => by cases h; rfl) rfl flX7_254 dX7_readsOrder_72 (by decide), ?_⟩
  refine List.forall_mem_cons.mpr ⟨ok_aload_n F dX7_readsOrder_75 rfl (by decide), ?_⟩
  refine List.forall_mem_cons.mpr ⟨ok_getf F flX7_251 dX7_readsOrder_76 (by decide), ?_⟩
  refine List.forall_mem_cons.mpr ⟨ok_bipush F dX7_readsOrder_79 (by decide) (by decide), ?_⟩
  refine List.forall_mem_cons.mpr ⟨ok_icmp_eq F dX7_readsOrder_81 (by decide) (by decide) (by decide), ?_⟩
  refine List.forall_mem_cons.mpr ⟨ok_aload_n F dX7_readsOrder_84 rfl (by decide), ?_⟩
  refine List.forall_mem_cons.mpr ⟨ok_callV F spok_X7_here (ln_id aW) rcv_aW (by decide +kernel) (by decide) dX7_readsOrder_85 (by decide), ?_⟩
  refine List.forall_mem_cons.mpr ⟨ok_i2l F dX7_readsOrder_88 (by decide), ?_⟩
  refine List.forall_mem_cons.mpr ⟨ok_ldc2 F (ix := 257) (wsHas_mem (l := [Jvm.Cond.constantLong RX7 257 48]) (by decide +kernel) (by simp)) dX7_readsOrder_89 (by decide), ?_⟩
  refine List.forall_mem_cons.mpr ⟨ok_ldc2 F (ix := 259) (wsHas_mem (l := [Jvm.Cond.constantLong RX7 259 57]) (by decide +kernel) (by simp)) dX7_readsOrder_92 (by decide), ?_⟩
  refine List.forall_mem_cons.mpr ⟨ok_callS F spok_X7_in (by decide +kernel) rfl (by decide) dX7_readsOrder_95 (by decide), ?_⟩
  refine List.forall_mem_cons.mpr ⟨ok_if_eq F dX7_readsOrder_98 (by decide) (by decide) (by decide), ?_⟩
  refine List.forall_mem_cons.mpr ⟨ok_aload_n F dX7_readsOrder_101 rfl (by decide), ?_⟩
  refine List.forall_mem_cons.mpr ⟨ok_getf F flX7_245 dX7_readsOrder_102 (by decide), ?_⟩
  refine List.forall_mem_cons.mpr ⟨ok_iload_n F dX7_readsOrder_105 rfl (by decide), ?_⟩
  refine List.forall_mem_cons.mpr ⟨ok_iconst F dX7_readsOrder_106 (by decide) (by decide), ?_⟩
  refine List.forall_mem_cons.mpr ⟨ok_iadd F dX7_readsOrder_107 (by decide), ?_⟩
  refine List.forall_mem_cons.mpr ⟨ok_icmp_ge F dX7_readsOrder_108 (by decide) (by decide) (by decide), ?_⟩
  refine List.forall_mem_cons.mpr ⟨ok_aload_n F dX7_readsOrder_111 rfl (by decide), ?_⟩
  refine List.forall_mem_cons.mpr ⟨ok_bipush F dX7_readsOrder_112 (by decide) (by decide), ?_⟩
  refine List.forall_mem_cons.mpr ⟨ok_aload_n F dX7_readsOrder_114 rfl (by decide), ?_⟩
  refine List.forall_mem_cons.mpr ⟨ok_getf F flX7_254 dX7_readsOrder_115 (by decide), ?_⟩
  refine List.forall_mem_cons.mpr ⟨ok_imul F dX7_readsOrder_118 (by decide), ?_⟩
  refine List.forall_mem_cons.mpr ⟨ok_aload_n F dX7_readsOrder_119 rfl (by decide), ?_⟩
  refine List.forall_mem_cons.mpr ⟨ok_callV F spok_X7_here (ln_id aW) rcv_aW (by decide +kernel) (by decide) dX7_readsOrder_120 (by decide), ?_⟩
  refine List.forall_mem_cons.mpr ⟨ok_iadd F dX7_readsOrder_123 (by decide), ?_⟩
  refine List.forall_mem_cons.mpr ⟨ok_bipush F dX7_readsOrder_124 (by decide) (by decide), ?_⟩
  refine List.forall_mem_cons.mpr ⟨ok_isub F dX7_readsOrder_126 (by decide), ?_⟩
  refine List.forall_mem_cons.mpr ⟨ok_puti F aW_p7_9_ok (fun _ _ _ h => by cases h; rfl) rfl flX7_254 dX7_readsOrder_127 (by decide), ?_⟩
  refine List.forall_mem_cons.mpr ⟨ok_aload_n F dX7_readsOrder_130 rfl (by decide), ?_⟩
  refine List.forall_mem_cons.mpr ⟨ok_dup F dX7_readsOrder_131 (by decide), ?_⟩
  refine List.forall_mem_cons.mpr ⟨ok_getf F flX7_245 dX7_readsOrder_132 (by decide), ?_⟩
  refine List.forall_mem_cons.mpr ⟨ok_iconst F dX7_readsOrder_135 (by decide) (by decide), ?_⟩
  refine List.forall_mem_cons.mpr ⟨ok_iadd F dX7_readsOrder_136 (by decide), ?_⟩
  refine List.forall_mem_cons.mpr ⟨ok_puti F aW_p7_7_ok (fun _ _ _ h => by cases h; rfl) rfl flX7_245 dX7_readsOrder_137 (by decide), ?_⟩
  refine List.forall_mem_cons.mpr ⟨ok_goto F dX7_readsOrder_140 (by decide) (by decide) (by decide), ?_⟩
  refine List.forall_mem_cons.mpr ⟨ok_aload_n F dX7_readsOrder_143 rfl (by decide), ?_⟩
  refine List.forall_mem_cons.mpr ⟨ok_getf F flX7_251 dX7_readsOrder_144 (by decide), ?_⟩
  refine List.forall_mem_cons.mpr ⟨ok_bipush F dX7_readsOrder_147 (by decide) (by decide), ?_⟩
  refine List.forall_mem_cons.mpr ⟨ok_icmp_eq F dX7_readsOrder_149 (by decide) (by decide) (by decide), ?_⟩
  refine List.forall_mem_cons.mpr ⟨ok_aload_n F dX7_readsOrder_152 rfl (by decide), ?_⟩
  refine List.forall_mem_cons.mpr ⟨ok_getf F flX7_245 dX7_readsOrder_153 (by decide), ?_⟩
  refine List.forall_mem_cons.mpr ⟨ok_iload_n F dX7_readsOrder_156 rfl (by decide), ?_⟩
  refine List.forall_mem_cons.mpr ⟨ok_icmp_le F dX7_readsOrder_157 (by decide) (by decide) (by decide), ?_⟩
  refine List.forall_mem_cons.mpr ⟨ok_aload_n F dX7_readsOrder_160 rfl (by decide), ?_⟩
  refine List.forall_mem_cons.mpr ⟨ok_callV F spok_X7_here (ln_id aW) rcv_aW (by decide +kernel) (by decide) dX7_readsOrder_161 (by decide), ?_⟩
  refine List.forall_mem_cons.mpr ⟨ok_bipush F dX7_readsOrder_164 (by decide) (by decide), ?_⟩
  refine List.forall_mem_cons.mpr ⟨ok_icmp_ne F dX7_readsOrder_166 (by decide) (by decide) (by decide), ?_⟩
  refine List.forall_mem_cons.mpr ⟨ok_iconst F dX7_readsOrder_169 (by decide) (by decide), ?_⟩
  refine List.forall_mem_cons.mpr ⟨ok_goto F dX7_readsOrder_170 (by decide) (by decide) (by decide), ?_⟩
  refine List.forall_mem_cons.mpr ⟨ok_iconst F dX7_readsOrder_173 (by decide) (by decide), ?_⟩
  refine List.forall_mem_cons.mpr ⟨ok_istore_n F dX7_readsOrder_174 rfl (by decide) (by decide), ?_⟩
  refine List.forall_mem_cons.mpr ⟨ok_aload_n F dX7_readsOrder_175 rfl (by decide), ?_⟩
  refine List.forall_mem_cons.mpr ⟨ok_dup F dX7_readsOrder_176 (by decide), ?_⟩
  refine List.forall_mem_cons.mpr ⟨ok_getf F flX7_245 dX7_readsOrder_177 (by decide), ?_⟩
  refine List.forall_mem_cons.mpr ⟨ok_iconst F dX7_readsOrder_180 (by decide) (by decide), ?_⟩
  refine List.forall_mem_cons.mpr ⟨ok_iadd F dX7_readsOrder_181 (by decide), ?_⟩
  refine List.forall_mem_cons.mpr ⟨ok_puti F aW_p7_7_ok (fun _ _ _ h => by cases h; rfl) rfl flX7_245 dX7_readsOrder_182 (by decide), ?_⟩
  refine List.forall_mem_cons.mpr ⟨ok_iload_n F dX7_readsOrder_185 rfl (by decide), ?_⟩
  refine List.forall_mem_cons.mpr ⟨ok_zret F G dX7_readsOrder_186 (by decide), ?_⟩
  exact fun _ h => absurd h List.not_mem_nil
set_option maxRecDepth 100000 in
theorem w_X7_readsOrder : (∀ (K : Kt QT) (n : Nat) (L : xL) (st : List Value) (S : QT), nx cod_X7_readsOrder cut_X7_readsOrder K (n + 1) 0 L st S = (O_aload 0 1) (nx cod_X7_readsOrder cut_X7_readsOrder K n) 0 L st S) ∧
  (∀ (K : Kt QT) (n : Nat) (L : xL) (st : List Value) (S : QT), nx cod_X7_readsOrder cut_X7_readsOrder K (n + 1) 1 L st S = (O_aload 0 1) (nx cod_X7_readsOrder cut_X7_readsOrder K n) 1 L st S) ∧
  (∀ (K : Kt QT) (n : Nat) (L : xL) (st : List Value) (S : QT), nx cod_X7_readsOrder cut_X7_readsOrder K (n + 1) 2 L st S = (O_callV 0 0 (fun S => S) (fun _ S' => S') sp_X7_here) (nx cod_X7_readsOrder cut_X7_readsOrder K n) 2 L st S) ∧
  (∀ (K : Kt QT) (n : Nat) (L : xL) (st : List Value) (S : QT), nx cod_X7_readsOrder cut_X7_readsOrder K (n + 1) 5 L st S = (O_puti aW_p7_8) (nx cod_X7_readsOrder cut_X7_readsOrder K n) 5 L st S) ∧
  (∀ (K : Kt QT) (n : Nat) (L : xL) (st : List Value) (S : QT), nx cod_X7_readsOrder cut_X7_readsOrder K (n + 1) 8 L st S = (O_aload 0 1) (nx cod_X7_readsOrder cut_X7_readsOrder K n) 8 L st S) ∧
  (∀ (K : Kt QT) (n : Nat) (L : xL) (st : List Value) (S : QT), nx cod_X7_readsOrder cut_X7_readsOrder K (n + 1) 9 L st S = (O_dup) (nx cod_X7_readsOrder cut_X7_readsOrder K n) 9 L st S) ∧
  (∀ (K : Kt QT) (n : Nat) (L : xL) (st : List Value) (S : QT), nx cod_X7_readsOrder cut_X7_readsOrder K (n + 1) 10 L st S = (O_getf aW 7 7) (nx cod_X7_readsOrder cut_X7_readsOrder K n) 10 L st S) ∧
  (∀ (K : Kt QT) (n : Nat) (L : xL) (st : List Value) (S : QT), nx cod_X7_readsOrder cut_X7_readsOrder K (n + 1) 13 L st S = (O_int 1 1) (nx cod_X7_readsOrder cut_X7_readsOrder K n) 13 L st S) ∧
  (∀ (K : Kt QT) (n : Nat) (L : xL) (st : List Value) (S : QT), nx cod_X7_readsOrder cut_X7_readsOrder K (n + 1) 14 L st S = (O_iadd) (nx cod_X7_readsOrder cut_X7_readsOrder K n) 14 L st S) ∧
  (∀ (K : Kt QT) (n : Nat) (L : xL) (st : List Value) (S : QT), nx cod_X7_readsOrder cut_X7_readsOrder K (n + 1) 15 L st S = (O_puti aW_p7_7) (nx cod_X7_readsOrder cut_X7_readsOrder K n) 15 L st S) ∧
  (∀ (K : Kt QT) (n : Nat) (L : xL) (st : List Value) (S : QT), nx cod_X7_readsOrder cut_X7_readsOrder K (n + 1) 18 L st S = (O_aload 0 1) (nx cod_X7_readsOrder cut_X7_readsOrder K n) 18 L st S) ∧
  (∀ (K : Kt QT) (n : Nat) (L : xL) (st : List Value) (S : QT), nx cod_X7_readsOrder cut_X7_readsOrder K (n + 1) 19 L st S = (O_getf aW 7 8) (nx cod_X7_readsOrder cut_X7_readsOrder K n) 19 L st S) ∧
  (∀ (K : Kt QT) (n : Nat) (L : xL) (st : List Value) (S : QT), nx cod_X7_readsOrder cut_X7_readsOrder K (n + 1) 22 L st S = (O_int 111 2) (nx cod_X7_readsOrder cut_X7_readsOrder K n) 22 L st S) ∧
  (∀ (K : Kt QT) (n : Nat) (L : xL) (st : List Value) (S : QT), nx cod_X7_readsOrder cut_X7_readsOrder K (n + 1) 24 L st S = (O_icmp_eq 65) (nx cod_X7_readsOrder cut_X7_readsOrder K n) 24 L st S) ∧
  (∀ (K : Kt QT) (n : Nat) (L : xL) (st : List Value) (S : QT), nx cod_X7_readsOrder cut_X7_readsOrder K (n + 1) 27 L st S = (O_aload 0 1) (nx cod_X7_readsOrder cut_X7_readsOrder K n) 27 L st S) ∧
  (∀ (K : Kt QT) (n : Nat) (L : xL) (st : List Value) (S : QT), nx cod_X7_readsOrder cut_X7_readsOrder K (n + 1) 28 L st S = (O_getf aW 7 8) (nx cod_X7_readsOrder cut_X7_readsOrder K n) 28 L st S) ∧
  (∀ (K : Kt QT) (n : Nat) (L : xL) (st : List Value) (S : QT), nx cod_X7_readsOrder cut_X7_readsOrder K (n + 1) 31 L st S = (O_int 99 2) (nx cod_X7_readsOrder cut_X7_readsOrder K n) 31 L st S) ∧
  (∀ (K : Kt QT) (n : Nat) (L : xL) (st : List Value) (S : QT), nx cod_X7_readsOrder cut_X7_readsOrder K (n + 1) 33 L st S = (O_icmp_eq 65) (nx cod_X7_readsOrder cut_X7_readsOrder K n) 33 L st S) ∧
  (∀ (K : Kt QT) (n : Nat) (L : xL) (st : List Value) (S : QT), nx cod_X7_readsOrder cut_X7_readsOrder K (n + 1) 36 L st S = (O_aload 0 1) (nx cod_X7_readsOrder cut_X7_readsOrder K n) 36 L st S) ∧
  (∀ (K : Kt QT) (n : Nat) (L : xL) (st : List Value) (S : QT), nx cod_X7_readsOrder cut_X7_readsOrder K (n + 1) 37 L st S = (O_getf aW 7 8) (nx cod_X7_readsOrder cut_X7_readsOrder K n) 37 L st S) ∧
  (∀ (K : Kt QT) (n : Nat) (L : xL) (st : List Value) (S : QT), nx cod_X7_readsOrder cut_X7_readsOrder K (n + 1) 40 L st S = (O_int 115 2) (nx cod_X7_readsOrder cut_X7_readsOrder K n) 40 L st S) ∧
  (∀ (K : Kt QT) (n : Nat) (L : xL) (st : List Value) (S : QT), nx cod_X7_readsOrder cut_X7_readsOrder K (n + 1) 42 L st S = (O_icmp_eq 65) (nx cod_X7_readsOrder cut_X7_readsOrder K n) 42 L st S) ∧
  (∀ (K : Kt QT) (n : Nat) (L : xL) (st : List Value) (S : QT), nx cod_X7_readsOrder cut_X7_readsOrder K (n + 1) 45 L st S = (O_aload 0 1) (nx cod_X7_readsOrder cut_X7_readsOrder K n) 45 L st S) ∧
  (∀ (K : Kt QT) (n : Nat) (L : xL) (st : List Value) (S : QT), nx cod_X7_readsOrder cut_X7_readsOrder K (n + 1) 46 L st S = (O_getf aW 7 8) (nx cod_X7_readsOrder cut_X7_readsOrder K n) 46 L st S) ∧
  (∀ (K : Kt QT) (n : Nat) (L : xL) (st : List Value) (S : QT), nx cod_X7_readsOrder cut_X7_readsOrder K (n + 1) 49 L st S = (O_int 112 2) (nx cod_X7_readsOrder cut_X7_readsOrder K n) 49 L st S) ∧
  (∀ (K : Kt QT) (n : Nat) (L : xL) (st : List Value) (S : QT), nx cod_X7_readsOrder cut_X7_readsOrder K (n + 1) 51 L st S = (O_icmp_eq 65) (nx cod_X7_readsOrder cut_X7_readsOrder K n) 51 L st S) ∧
  (∀ (K : Kt QT) (n : Nat) (L : xL) (st : List Value) (S : QT), nx cod_X7_readsOrder cut_X7_readsOrder K (n + 1) 54 L st S = (O_aload 0 1) (nx cod_X7_readsOrder cut_X7_readsOrder K n) 54 L st S) ∧
  (∀ (K : Kt QT) (n : Nat) (L : xL) (st : List Value) (S : QT), nx cod_X7_readsOrder cut_X7_readsOrder K (n + 1) 55 L st S = (O_getf aW 7 8) (nx cod_X7_readsOrder cut_X7_readsOrder K n) 55 L st S) ∧
  (∀ (K : Kt QT) (n : Nat) (L : xL) (st : List Value) (S : QT), nx cod_X7_readsOrder cut_X7_readsOrder K (n + 1) 58 L st S = (O_int 114 2) (nx cod_X7_readsOrder cut_X7_readsOrder K n) 58 L st S) ∧
  (∀ (K : Kt QT) (n : Nat) (L : xL) (st : List Value) (S : QT), nx cod_X7_readsOrder cut_X7_readsOrder K (n + 1) 60 L st S = (O_icmp_eq 65) (nx cod_X7_readsOrder cut_X7_readsOrder K n) 60 L st S) ∧
  (∀ (K : Kt QT) (n : Nat) (L : xL) (st : List Value) (S : QT), nx cod_X7_readsOrder cut_X7_readsOrder K (n + 1) 63 L st S = (O_int 0 1) (nx cod_X7_readsOrder cut_X7_readsOrder K n) 63 L st S) ∧
  (∀ (K : Kt QT) (n : Nat) (L : xL) (st : List Value) (S : QT), nx cod_X7_readsOrder cut_X7_readsOrder K (n + 1) 64 L st S = (O_zret) (nx cod_X7_readsOrder cut_X7_readsOrder K n) 64 L st S) ∧
  (∀ (K : Kt QT) (n : Nat) (L : xL) (st : List Value) (S : QT), nx cod_X7_readsOrder cut_X7_readsOrder K (n + 1) 65 L st S = K 65 L st S) ∧
  (∀ (K : Kt QT) (n : Nat) (L : xL) (st : List Value) (S : QT), nx1 cod_X7_readsOrder cut_X7_readsOrder K n 65 L st S = (O_aload 0 1) (nx cod_X7_readsOrder cut_X7_readsOrder K n) 65 L st S) ∧
  (∀ (K : Kt QT) (n : Nat) (L : xL) (st : List Value) (S : QT), nx cod_X7_readsOrder cut_X7_readsOrder K (n + 1) 66 L st S = (O_getf aW 7 7) (nx cod_X7_readsOrder cut_X7_readsOrder K n) 66 L st S) ∧
  (∀ (K : Kt QT) (n : Nat) (L : xL) (st : List Value) (S : QT), nx cod_X7_readsOrder cut_X7_readsOrder K (n + 1) 69 L st S = (O_istore 1 1) (nx cod_X7_readsOrder cut_X7_readsOrder K n) 69 L st S) ∧
  (∀ (K : Kt QT) (n : Nat) (L : xL) (st : List Value) (S : QT), nx cod_X7_readsOrder cut_X7_readsOrder K (n + 1) 70 L st S = (O_aload 0 1) (nx cod_X7_readsOrder cut_X7_readsOrder K n) 70 L st S) ∧
  (∀ (K : Kt QT) (n : Nat) (L : xL) (st : List Value) (S : QT), nx cod_X7_readsOrder cut_X7_readsOrder K (n + 1) 71 L st S = (O_int 0 1) (nx cod_X7_readsOrder cut_X7_readsOrder K n) 71 L st S) ∧
  (∀ (K : Kt QT) (n : Nat) (L : xL) (st : List Value) (S : QT), nx cod_X7_readsOrder cut_X7_readsOrder K (n + 1) 72 L st S = (O_puti aW_p7_9) (nx cod_X7_readsOrder cut_X7_readsOrder K n) 72 L st S) ∧
  (∀ (K : Kt QT) (n : Nat) (L : xL) (st : List Value) (S : QT), nx cod_X7_readsOrder cut_X7_readsOrder K (n + 1) 75 L st S = K 75 L st S) ∧
  (∀ (K : Kt QT) (n : Nat) (L : xL) (st : List Value) (S : QT), nx1 cod_X7_readsOrder cut_X7_readsOrder K n 75 L st S = (O_aload 0 1) (nx cod_X7_readsOrder cut_X7_readsOrder K n) 75 L st S) ∧
  (∀ (K : Kt QT) (n : Nat) (L : xL) (st : List Value) (S : QT), nx cod_X7_readsOrder cut_X7_readsOrder K (n + 1) 76 L st S = (O_getf aW 7 8) (nx cod_X7_readsOrder cut_X7_readsOrder K n) 76 L st S) ∧
  (∀ (K : Kt QT) (n : Nat) (L : xL) (st : List Value) (S : QT), nx cod_X7_readsOrder cut_X7_readsOrder K (n + 1) 79 L st S = (O_int 114 2) (nx cod_X7_readsOrder cut_X7_readsOrder K n) 79 L st S) ∧
  (∀ (K : Kt QT) (n : Nat) (L : xL) (st : List Value) (S : QT), nx cod_X7_readsOrder cut_X7_readsOrder K (n + 1) 81 L st S = (O_icmp_eq 143) (nx cod_X7_readsOrder cut_X7_readsOrder K n) 81 L st S) ∧
  (∀ (K : Kt QT) (n : Nat) (L : xL) (st : List Value) (S : QT), nx cod_X7_readsOrder cut_X7_readsOrder K (n + 1) 84 L st S = (O_aload 0 1) (nx cod_X7_readsOrder cut_X7_readsOrder K n) 84 L st S) ∧
  (∀ (K : Kt QT) (n : Nat) (L : xL) (st : List Value) (S : QT), nx cod_X7_readsOrder cut_X7_readsOrder K (n + 1) 85 L st S = (O_callV 0 0 (fun S => S) (fun _ S' => S') sp_X7_here) (nx cod_X7_readsOrder cut_X7_readsOrder K n) 85 L st S) ∧
  (∀ (K : Kt QT) (n : Nat) (L : xL) (st : List Value) (S : QT), nx cod_X7_readsOrder cut_X7_readsOrder K (n + 1) 88 L st S = (O_i2l) (nx cod_X7_readsOrder cut_X7_readsOrder K n) 88 L st S) ∧
  (∀ (K : Kt QT) (n : Nat) (L : xL) (st : List Value) (S : QT), nx cod_X7_readsOrder cut_X7_readsOrder K (n + 1) 89 L st S = (O_long 48 3) (nx cod_X7_readsOrder cut_X7_readsOrder K n) 89 L st S) ∧
  (∀ (K : Kt QT) (n : Nat) (L : xL) (st : List Value) (S : QT), nx cod_X7_readsOrder cut_X7_readsOrder K (n + 1) 92 L st S = (O_long 57 3) (nx cod_X7_readsOrder cut_X7_readsOrder K n) 92 L st S) ∧
  (∀ (K : Kt QT) (n : Nat) (L : xL) (st : List Value) (S : QT), nx cod_X7_readsOrder cut_X7_readsOrder K (n + 1) 95 L st S = (O_callS 3 sp_X7_in) (nx cod_X7_readsOrder cut_X7_readsOrder K n) 95 L st S) ∧
  (∀ (K : Kt QT) (n : Nat) (L : xL) (st : List Value) (S : QT), nx cod_X7_readsOrder cut_X7_readsOrder K (n + 1) 98 L st S = (O_if_eq 143) (nx cod_X7_readsOrder cut_X7_readsOrder K n) 98 L st S) ∧
  (∀ (K : Kt QT) (n : Nat) (L : xL) (st : List Value) (S : QT), nx cod_X7_readsOrder cut_X7_readsOrder K (n + 1) 101 L st S = (O_aload 0 1) (nx cod_X7_readsOrder cut_X7_readsOrder K n) 101 L st S) ∧
  (∀ (K : Kt QT) (n : Nat) (L : xL) (st : List Value) (S : QT), nx cod_X7_readsOrder cut_X7_readsOrder K (n + 1) 102 L st S = (O_getf aW 7 7) (nx cod_X7_readsOrder cut_X7_readsOrder K n) 102 L st S) ∧
  (∀ (K : Kt QT) (n : Nat) (L : xL) (st : List Value) (S : QT), nx cod_X7_readsOrder cut_X7_readsOrder K (n + 1) 105 L st S = (O_iload 1 1) (nx cod_X7_readsOrder cut_X7_readsOrder K n) 105 L st S) ∧
  (∀ (K : Kt QT) (n : Nat) (L : xL) (st : List Value) (S : QT), nx cod_X7_readsOrder cut_X7_readsOrder K (n + 1) 106 L st S = (O_int 3 1) (nx cod_X7_readsOrder cut_X7_readsOrder K n) 106 L st S) ∧
  (∀ (K : Kt QT) (n : Nat) (L : xL) (st : List Value) (S : QT), nx cod_X7_readsOrder cut_X7_readsOrder K (n + 1) 107 L st S = (O_iadd) (nx cod_X7_readsOrder cut_X7_readsOrder K n) 107 L st S) ∧
  (∀ (K : Kt QT) (n : Nat) (L : xL) (st : List Value) (S : QT), nx cod_X7_readsOrder cut_X7_readsOrder K (n + 1) 108 L st S = (O_icmp_ge 143) (nx cod_X7_readsOrder cut_X7_readsOrder K n) 108 L st S) ∧
  (∀ (K : Kt QT) (n : Nat) (L : xL) (st : List Value) (S : QT), nx cod_X7_readsOrder cut_X7_readsOrder K (n + 1) 111 L st S = (O_aload 0 1) (nx cod_X7_readsOrder cut_X7_readsOrder K n) 111 L st S) ∧
  (∀ (K : Kt QT) (n : Nat) (L : xL) (st : List Value) (S : QT), nx cod_X7_readsOrder cut_X7_readsOrder K (n + 1) 112 L st S = (O_int 10 2) (nx cod_X7_readsOrder cut_X7_readsOrder K n) 112 L st S) ∧
  (∀ (K : Kt QT) (n : Nat) (L : xL) (st : List Value) (S : QT), nx cod_X7_readsOrder cut_X7_readsOrder K (n + 1) 114 L st S = (O_aload 0 1) (nx cod_X7_readsOrder cut_X7_readsOrder K n) 114 L st S) ∧
  (∀ (K : Kt QT) (n : Nat) (L : xL) (st : List Value) (S : QT), nx cod_X7_readsOrder cut_X7_readsOrder K (n + 1) 115 L st S = (O_getf aW 7 9) (nx cod_X7_readsOrder cut_X7_readsOrder K n) 115 L st S) ∧
  (∀ (K : Kt QT) (n : Nat) (L : xL) (st : List Value) (S : QT), nx cod_X7_readsOrder cut_X7_readsOrder K (n + 1) 118 L st S = (O_imul) (nx cod_X7_readsOrder cut_X7_readsOrder K n) 118 L st S) ∧
  (∀ (K : Kt QT) (n : Nat) (L : xL) (st : List Value) (S : QT), nx cod_X7_readsOrder cut_X7_readsOrder K (n + 1) 119 L st S = (O_aload 0 1) (nx cod_X7_readsOrder cut_X7_readsOrder K n) 119 L st S) ∧
  (∀ (K : Kt QT) (n : Nat) (L : xL) (st : List Value) (S : QT), nx cod_X7_readsOrder cut_X7_readsOrder K (n + 1) 120 L st S = (O_callV 0 0 (fun S => S) (fun _ S' => S') sp_X7_here) (nx cod_X7_readsOrder cut_X7_readsOrder K n) 120 L st S) ∧
  (∀ (K : Kt QT) (n : Nat) (L : xL) (st : List Value) (S : QT), nx cod_X7_readsOrder cut_X7_readsOrder K (n + 1) 123 L st S = (O_iadd) (nx cod_X7_readsOrder cut_X7_readsOrder K n) 123 L st S) ∧
  (∀ (K : Kt QT) (n : Nat) (L : xL) (st : List Value) (S : QT), nx cod_X7_readsOrder cut_X7_readsOrder K (n + 1) 124 L st S = (O_int 48 2) (nx cod_X7_readsOrder cut_X7_readsOrder K n) 124 L st S) ∧
  (∀ (K : Kt QT) (n : Nat) (L : xL) (st : List Value) (S : QT), nx cod_X7_readsOrder cut_X7_readsOrder K (n + 1) 126 L st S = (O_isub) (nx cod_X7_readsOrder cut_X7_readsOrder K n) 126 L st S) ∧
  (∀ (K : Kt QT) (n : Nat) (L : xL) (st : List Value) (S : QT), nx cod_X7_readsOrder cut_X7_readsOrder K (n + 1) 127 L st S = (O_puti aW_p7_9) (nx cod_X7_readsOrder cut_X7_readsOrder K n) 127 L st S) ∧
  (∀ (K : Kt QT) (n : Nat) (L : xL) (st : List Value) (S : QT), nx cod_X7_readsOrder cut_X7_readsOrder K (n + 1) 130 L st S = (O_aload 0 1) (nx cod_X7_readsOrder cut_X7_readsOrder K n) 130 L st S) ∧
  (∀ (K : Kt QT) (n : Nat) (L : xL) (st : List Value) (S : QT), nx cod_X7_readsOrder cut_X7_readsOrder K (n + 1) 131 L st S = (O_dup) (nx cod_X7_readsOrder cut_X7_readsOrder K n) 131 L st S) ∧
  (∀ (K : Kt QT) (n : Nat) (L : xL) (st : List Value) (S : QT), nx cod_X7_readsOrder cut_X7_readsOrder K (n + 1) 132 L st S = (O_getf aW 7 7) (nx cod_X7_readsOrder cut_X7_readsOrder K n) 132 L st S) ∧
  (∀ (K : Kt QT) (n : Nat) (L : xL) (st : List Value) (S : QT), nx cod_X7_readsOrder cut_X7_readsOrder K (n + 1) 135 L st S = (O_int 1 1) (nx cod_X7_readsOrder cut_X7_readsOrder K n) 135 L st S) ∧
  (∀ (K : Kt QT) (n : Nat) (L : xL) (st : List Value) (S : QT), nx cod_X7_readsOrder cut_X7_readsOrder K (n + 1) 136 L st S = (O_iadd) (nx cod_X7_readsOrder cut_X7_readsOrder K n) 136 L st S) ∧
  (∀ (K : Kt QT) (n : Nat) (L : xL) (st : List Value) (S : QT), nx cod_X7_readsOrder cut_X7_readsOrder K (n + 1) 137 L st S = (O_puti aW_p7_7) (nx cod_X7_readsOrder cut_X7_readsOrder K n) 137 L st S) ∧
  (∀ (K : Kt QT) (n : Nat) (L : xL) (st : List Value) (S : QT), nx cod_X7_readsOrder cut_X7_readsOrder K (n + 1) 140 L st S = (O_goto 75) (nx cod_X7_readsOrder cut_X7_readsOrder K n) 140 L st S) ∧
  (∀ (K : Kt QT) (n : Nat) (L : xL) (st : List Value) (S : QT), nx cod_X7_readsOrder cut_X7_readsOrder K (n + 1) 143 L st S = K 143 L st S) ∧
  (∀ (K : Kt QT) (n : Nat) (L : xL) (st : List Value) (S : QT), nx1 cod_X7_readsOrder cut_X7_readsOrder K n 143 L st S = (O_aload 0 1) (nx cod_X7_readsOrder cut_X7_readsOrder K n) 143 L st S) ∧
  (∀ (K : Kt QT) (n : Nat) (L : xL) (st : List Value) (S : QT), nx cod_X7_readsOrder cut_X7_readsOrder K (n + 1) 144 L st S = (O_getf aW 7 8) (nx cod_X7_readsOrder cut_X7_readsOrder K n) 144 L st S) ∧
  (∀ (K : Kt QT) (n : Nat) (L : xL) (st : List Value) (S : QT), nx cod_X7_readsOrder cut_X7_readsOrder K (n + 1) 147 L st S = (O_int 114 2) (nx cod_X7_readsOrder cut_X7_readsOrder K n) 147 L st S) ∧
  (∀ (K : Kt QT) (n : Nat) (L : xL) (st : List Value) (S : QT), nx cod_X7_readsOrder cut_X7_readsOrder K (n + 1) 149 L st S = (O_icmp_eq 160) (nx cod_X7_readsOrder cut_X7_readsOrder K n) 149 L st S) ∧
  (∀ (K : Kt QT) (n : Nat) (L : xL) (st : List Value) (S : QT), nx cod_X7_readsOrder cut_X7_readsOrder K (n + 1) 152 L st S = (O_aload 0 1) (nx cod_X7_readsOrder cut_X7_readsOrder K n) 152 L st S) ∧
  (∀ (K : Kt QT) (n : Nat) (L : xL) (st : List Value) (S : QT), nx cod_X7_readsOrder cut_X7_readsOrder K (n + 1) 153 L st S = (O_getf aW 7 7) (nx cod_X7_readsOrder cut_X7_readsOrder K n) 153 L st S) ∧
  (∀ (K : Kt QT) (n : Nat) (L : xL) (st : List Value) (S : QT), nx cod_X7_readsOrder cut_X7_readsOrder K (n + 1) 156 L st S = (O_iload 1 1) (nx cod_X7_readsOrder cut_X7_readsOrder K n) 156 L st S) ∧
  (∀ (K : Kt QT) (n : Nat) (L : xL) (st : List Value) (S : QT), nx cod_X7_readsOrder cut_X7_readsOrder K (n + 1) 157 L st S = (O_icmp_le 173) (nx cod_X7_readsOrder cut_X7_readsOrder K n) 157 L st S) ∧
  (∀ (K : Kt QT) (n : Nat) (L : xL) (st : List Value) (S : QT), nx cod_X7_readsOrder cut_X7_readsOrder K (n + 1) 160 L st S = (O_aload 0 1) (nx cod_X7_readsOrder cut_X7_readsOrder K n) 160 L st S) ∧
  (∀ (K : Kt QT) (n : Nat) (L : xL) (st : List Value) (S : QT), nx cod_X7_readsOrder cut_X7_readsOrder K (n + 1) 161 L st S = (O_callV 0 0 (fun S => S) (fun _ S' => S') sp_X7_here) (nx cod_X7_readsOrder cut_X7_readsOrder K n) 161 L st S) ∧
  (∀ (K : Kt QT) (n : Nat) (L : xL) (st : List Value) (S : QT), nx cod_X7_readsOrder cut_X7_readsOrder K (n + 1) 164 L st S = (O_int 59 2) (nx cod_X7_readsOrder cut_X7_readsOrder K n) 164 L st S) ∧
  (∀ (K : Kt QT) (n : Nat) (L : xL) (st : List Value) (S : QT), nx cod_X7_readsOrder cut_X7_readsOrder K (n + 1) 166 L st S = (O_icmp_ne 173) (nx cod_X7_readsOrder cut_X7_readsOrder K n) 166 L st S) ∧
  (∀ (K : Kt QT) (n : Nat) (L : xL) (st : List Value) (S : QT), nx cod_X7_readsOrder cut_X7_readsOrder K (n + 1) 169 L st S = (O_int 1 1) (nx cod_X7_readsOrder cut_X7_readsOrder K n) 169 L st S) ∧
  (∀ (K : Kt QT) (n : Nat) (L : xL) (st : List Value) (S : QT), nx cod_X7_readsOrder cut_X7_readsOrder K (n + 1) 170 L st S = (O_goto 174) (nx cod_X7_readsOrder cut_X7_readsOrder K n) 170 L st S) ∧
  (∀ (K : Kt QT) (n : Nat) (L : xL) (st : List Value) (S : QT), nx cod_X7_readsOrder cut_X7_readsOrder K (n + 1) 173 L st S = (O_int 0 1) (nx cod_X7_readsOrder cut_X7_readsOrder K n) 173 L st S) ∧
  (∀ (K : Kt QT) (n : Nat) (L : xL) (st : List Value) (S : QT), nx cod_X7_readsOrder cut_X7_readsOrder K (n + 1) 174 L st S = (O_istore 2 1) (nx cod_X7_readsOrder cut_X7_readsOrder K n) 174 L st S) ∧
  (∀ (K : Kt QT) (n : Nat) (L : xL) (st : List Value) (S : QT), nx cod_X7_readsOrder cut_X7_readsOrder K (n + 1) 175 L st S = K 175 L st S) ∧
  (∀ (K : Kt QT) (n : Nat) (L : xL) (st : List Value) (S : QT), nx1 cod_X7_readsOrder cut_X7_readsOrder K n 175 L st S = (O_aload 0 1) (nx cod_X7_readsOrder cut_X7_readsOrder K n) 175 L st S) ∧
  (∀ (K : Kt QT) (n : Nat) (L : xL) (st : List Value) (S : QT), nx cod_X7_readsOrder cut_X7_readsOrder K (n + 1) 176 L st S = (O_dup) (nx cod_X7_readsOrder cut_X7_readsOrder K n) 176 L st S) ∧
  (∀ (K : Kt QT) (n : Nat) (L : xL) (st : List Value) (S : QT), nx cod_X7_readsOrder cut_X7_readsOrder K (n + 1) 177 L st S = (O_getf aW 7 7) (nx cod_X7_readsOrder cut_X7_readsOrder K n) 177 L st S) ∧
  (∀ (K : Kt QT) (n : Nat) (L : xL) (st : List Value) (S : QT), nx cod_X7_readsOrder cut_X7_readsOrder K (n + 1) 180 L st S = (O_int 1 1) (nx cod_X7_readsOrder cut_X7_readsOrder K n) 180 L st S) ∧
  (∀ (K : Kt QT) (n : Nat) (L : xL) (st : List Value) (S : QT), nx cod_X7_readsOrder cut_X7_readsOrder K (n + 1) 181 L st S = (O_iadd) (nx cod_X7_readsOrder cut_X7_readsOrder K n) 181 L st S) ∧
  (∀ (K : Kt QT) (n : Nat) (L : xL) (st : List Value) (S : QT), nx cod_X7_readsOrder cut_X7_readsOrder K (n + 1) 182 L st S = (O_puti aW_p7_7) (nx cod_X7_readsOrder cut_X7_readsOrder K n) 182 L st S) ∧
  (∀ (K : Kt QT) (n : Nat) (L : xL) (st : List Value) (S : QT), nx cod_X7_readsOrder cut_X7_readsOrder K (n + 1) 185 L st S = (O_iload 2 1) (nx cod_X7_readsOrder cut_X7_readsOrder K n) 185 L st S) ∧
  (∀ (K : Kt QT) (n : Nat) (L : xL) (st : List Value) (S : QT), nx cod_X7_readsOrder cut_X7_readsOrder K (n + 1) 186 L st S = (O_zret) (nx cod_X7_readsOrder cut_X7_readsOrder K n) 186 L st S) ∧
  (∀ (K : Kt QT) (n : Nat) (L : xL) (st : List Value) (S : QT), nx cod_X7_readsOrder cut_X7_readsOrder K (n + 1) 100000 L st S = K 100000 L st S) := by
  repeat' apply And.intro
  all_goals (intros; rfl)
set_option maxRecDepth 100000 in
theorem mk_X7_readsOrder {P P' : QT} {r : Option Value}  (body : ∀ E : En, CodOk E aW cod_X7_readsOrder → Gd E aW 100000 [] r.toList P' → Gd E aW 0 [some (.ref 0), none, none] [] P) : Con yX7_readsOrder cX7_readsOrder 3 (some .boolean) 1 aW [.ref 0] P r P' :=
  Con.of (by decide) ((aW_len P').trans (aW_len P).symm) rfl (Nat.le_of_ble_eq_true rfl) (fun E F G hr => body E (okc_X7_readsOrder F G) hr)
set_option maxRecDepth 10000 in
theorem con_X7_readsOrder (S : ST) (M : MT) (fl : Bool)  (hp : isN M.textLong M.tn 60 ∧ isN M.place M.pl 100) : Con yX7_readsOrder cX7_readsOrder 3 (some .boolean) 1 aW [.ref 0] (S, M, fl) (some (.int (bI M.rdo.1))) ((S, M.rdo.2, fl)) := by
  refine mk_X7_readsOrder (fun E C hr => ?_)
  obtain ⟨ht, hpl⟩ := hp
  obtain ⟨p, ep, hp⟩ : ∃ p : Nat, M.place = nI p ∧ p ≤ 100 := ⟨M.pl, hpl.1, hpl.2.1⟩
  have hM : M.tok := tok_pl1 ht ep (by omega)
  have h143 : let5 M.here = true → Gd E aW 143 [some (.ref 0), some (.int (nI (p + 1))), none] [] (S, M.rd3, fl) := by
    intro hl
    have e : M.rdo = (decide ((M.here = 114 ∨ M.place + 1 < M.rd3.place) ∧ M.rd3.here = 59), M.rd3.sPlace (M.rd3.place + 1)) := if_neg (by rw [hl]; decide)
    rw [e] at hr
    have k : M.rd3.order = M.here ∧ M.rd3.tok := by
      unfold MT.rd3
      by_cases c : M.here = 114
      · rw [if_pos c]
        refine ⟨rfl, tok_pl1 ht (p := p + 1) (by show M.place + 1 = _; rw [ep, nI_1]) (by omega)⟩
      · rw [if_neg c]
        obtain ⟨h1, h2, h3, h4⟩ := digs7_keep 3 M.rd2
        obtain ⟨k, hk, e⟩ := h4 (p + 1) (by show M.place + 1 = _; rw [ep, nI_1])
        refine ⟨h3.trans rfl, tok_pl1 ?_ e (by omega)⟩
        unfold MT.tn
        rw [h2]
        exact ht
    obtain ⟨k1, k2⟩ := k
    have ep1 : M.place + 1 = nI (p + 1) := by rw [ep, nI_1]
    rw [ep1] at hr
    clear hl e hM ht hpl
    generalize M.rd3 = T at *
    have h175 : ∀ b : Bool, b = decide ((M.here = 114 ∨ nI (p + 1) < T.place) ∧ T.here = 59) → Gd E aW 175 [some (.ref 0), some (.int (nI (p + 1))), some (.int (bI b))] [] (S, T, fl) := by
      intro b hb
      rw [← hb] at hr
      (refine nx1_ok C cut_X7_readsOrder 1000 ?_; simp only [w_X7_readsOrder, ops_eq, xst_eq, call_eq, oK_eq, Option.toList_some, Option.toList_none, List.cons_append, List.nil_append, List.length_cons, List.length_nil, true_and, and_true, Nat.reduceAdd, aW_F, aW_A, aW_P, aW_w, abs_eq, O_asti_eq, v170, cl_eq, ST_id, MT_gs, ST_gs, PT_gs, ZT_gs, NT_gs, ET_gs, se_X7_here, se_X7_in, bI_eq])
      ((repeat' (with_reducible first | apply And.intro | intro _)) <;> first | (with_reducible assumption) | (with_reducible exact Nat.zero_le _) | contradiction | (simp only [Option.toList_none, Option.toList_some] at hr; with_reducible assumption) | (simp_all; done) | assumption)
    clear hr
    by_cases c1 : M.here = 114
    · by_cases c2 : T.here = 59
      · have h175 := h175 true (decide_eq_true ⟨Or.inl c1, c2⟩).symm
        rw [bI_eq.2.2.1] at h175
        (refine nx1_ok C cut_X7_readsOrder 1000 ?_; simp only [w_X7_readsOrder, ops_eq, xst_eq, call_eq, oK_eq, Option.toList_some, Option.toList_none, List.cons_append, List.nil_append, List.length_cons, List.length_nil, true_and, and_true, Nat.reduceAdd, aW_F, aW_A, aW_P, aW_w, abs_eq, O_asti_eq, v170, cl_eq, ST_id, MT_gs, ST_gs, PT_gs, ZT_gs, NT_gs, ET_gs, se_X7_here, se_X7_in, k1, k2, c1, c2])
        ((repeat' (with_reducible first | apply And.intro | intro _)) <;> first | (with_reducible assumption) | (with_reducible exact Nat.zero_le _) | contradiction | (simp only [Option.toList_none, Option.toList_some] at hr; with_reducible assumption) | (simp_all; done) | assumption)
      · have h175 := h175 false (decide_eq_false (fun z => c2 z.2)).symm
        rw [bI_eq.2.2.2.1] at h175
        (refine nx1_ok C cut_X7_readsOrder 1000 ?_; simp only [w_X7_readsOrder, ops_eq, xst_eq, call_eq, oK_eq, Option.toList_some, Option.toList_none, List.cons_append, List.nil_append, List.length_cons, List.length_nil, true_and, and_true, Nat.reduceAdd, aW_F, aW_A, aW_P, aW_w, abs_eq, O_asti_eq, v170, cl_eq, ST_id, MT_gs, ST_gs, PT_gs, ZT_gs, NT_gs, ET_gs, se_X7_here, se_X7_in, k1, k2, c1, c2])
        ((repeat' (with_reducible first | apply And.intro | intro _)) <;> first | (with_reducible assumption) | (with_reducible exact Nat.zero_le _) | contradiction | (simp only [Option.toList_none, Option.toList_some] at hr; with_reducible assumption) | (simp_all; done) | assumption)
    · by_cases c3 : nI (p + 1) < T.place
      · by_cases c2 : T.here = 59
        · have h175 := h175 true (decide_eq_true ⟨Or.inr c3, c2⟩).symm
          rw [bI_eq.2.2.1] at h175
          (refine nx1_ok C cut_X7_readsOrder 1000 ?_; simp only [w_X7_readsOrder, ops_eq, xst_eq, call_eq, oK_eq, Option.toList_some, Option.toList_none, List.cons_append, List.nil_append, List.length_cons, List.length_nil, true_and, and_true, Nat.reduceAdd, aW_F, aW_A, aW_P, aW_w, abs_eq, O_asti_eq, v170, cl_eq, ST_id, MT_gs, ST_gs, PT_gs, ZT_gs, NT_gs, ET_gs, se_X7_here, se_X7_in, k1, k2, c1, c2, c3])
          ((repeat' (with_reducible first | apply And.intro | intro _)) <;> first | (with_reducible assumption) | (with_reducible exact Nat.zero_le _) | contradiction | (simp only [Option.toList_none, Option.toList_some] at hr; with_reducible assumption) | (simp_all; done) | assumption)
        · have h175 := h175 false (decide_eq_false (fun z => c2 z.2)).symm
          rw [bI_eq.2.2.2.1] at h175
          (refine nx1_ok C cut_X7_readsOrder 1000 ?_; simp only [w_X7_readsOrder, ops_eq, xst_eq, call_eq, oK_eq, Option.toList_some, Option.toList_none, List.cons_append, List.nil_append, List.length_cons, List.length_nil, true_and, and_true, Nat.reduceAdd, aW_F, aW_A, aW_P, aW_w, abs_eq, O_asti_eq, v170, cl_eq, ST_id, MT_gs, ST_gs, PT_gs, ZT_gs, NT_gs, ET_gs, se_X7_here, se_X7_in, k1, k2, c1, c2, c3])
          ((repeat' (with_reducible first | apply And.intro | intro _)) <;> first | (with_reducible assumption) | (with_reducible exact Nat.zero_le _) | contradiction | (simp only [Option.toList_none, Option.toList_some] at hr; with_reducible assumption) | (simp_all; done) | assumption)
      · have h175 := h175 false (decide_eq_false (fun z => z.1.elim c1 c3)).symm
        rw [bI_eq.2.2.2.1] at h175
        (refine nx1_ok C cut_X7_readsOrder 1000 ?_; simp only [w_X7_readsOrder, ops_eq, xst_eq, call_eq, oK_eq, Option.toList_some, Option.toList_none, List.cons_append, List.nil_append, List.length_cons, List.length_nil, true_and, and_true, Nat.reduceAdd, aW_F, aW_A, aW_P, aW_w, abs_eq, O_asti_eq, v170, cl_eq, ST_id, MT_gs, ST_gs, PT_gs, ZT_gs, NT_gs, ET_gs, se_X7_here, se_X7_in, k1, k2, c1, c3])
        ((repeat' (with_reducible first | apply And.intro | intro _)) <;> first | (with_reducible assumption) | (with_reducible exact Nat.zero_le _) | contradiction | (simp only [Option.toList_none, Option.toList_some] at hr; with_reducible assumption) | (simp_all; done) | assumption)
  have h75 : let5 M.here = true → Gd E aW 75 [some (.ref 0), some (.int (nI (p + 1))), none] [] (S, M.rd2, fl) := by
    intro hl
    have h143 := h143 hl
    have eo : M.rd2.order = M.here := rfl
    by_cases c : M.here = 114
    · have e : M.rd3 = M.rd2 := if_pos c
      rw [e] at h143
      clear hr e
      generalize M.rd2 = T at *
      (refine nx1_ok C cut_X7_readsOrder 1000 ?_; simp only [w_X7_readsOrder, ops_eq, xst_eq, call_eq, oK_eq, Option.toList_some, Option.toList_none, List.cons_append, List.nil_append, List.length_cons, List.length_nil, true_and, and_true, Nat.reduceAdd, aW_F, aW_A, aW_P, aW_w, abs_eq, O_asti_eq, v170, cl_eq, ST_id, MT_gs, ST_gs, PT_gs, ZT_gs, NT_gs, ET_gs, se_X7_here, se_X7_in, eo, c])
      ((repeat' (with_reducible first | apply And.intro | intro _)) <;> first | (with_reducible assumption) | (with_reducible exact Nat.zero_le _) | contradiction | (simp only [Option.toList_none, Option.toList_some] at hr; with_reducible assumption) | (simp_all; done) | assumption)
    · have e : M.rd3 = MT.digs7 3 M.rd2 := if_neg c
      rw [e] at h143
      have e2 : M.rd2.place = nI (p + 1) := by show M.place + 1 = _; rw [ep, nI_1]
      have e3 : isN M.rd2.textLong M.rd2.tn 60 := ht
      clear hr e
      have loop : ∀ (f j : Nat) (T : MT), j + f = 3 → T.place = nI (p + 1 + j) → T.order = M.here → isN T.textLong T.tn 60 → MT.digs7 f T = MT.digs7 3 M.rd2 → Gd E aW 75 [some (.ref 0), some (.int (nI (p + 1))), none] [] (S, T, fl) := by
        intro f
        induction f with
        | zero =>
          intro j T hj q1 q2 q3 q4
          have q4 : T = MT.digs7 3 M.rd2 := q4
          rw [← q4] at h143
          have qt : T.tok := tok_pl1 q3 q1 (by omega)
          have q5 : ¬ T.place < nI (p + 1) + 3 := by
            rw [q1, show (3 : Int32) = nI 3 from rfl, nI_add, nI_ltI (by omega) (by omega)]
            omega
          clear q4 q1 q3 eo e2 e3 ht hpl hM
          by_cases d : inR T.here 48 57 = true
          · (refine nx1_ok C cut_X7_readsOrder 1000 ?_; simp only [w_X7_readsOrder, ops_eq, xst_eq, call_eq, oK_eq, Option.toList_some, Option.toList_none, List.cons_append, List.nil_append, List.length_cons, List.length_nil, true_and, and_true, Nat.reduceAdd, aW_F, aW_A, aW_P, aW_w, abs_eq, O_asti_eq, v170, cl_eq, ST_id, MT_gs, ST_gs, PT_gs, ZT_gs, NT_gs, ET_gs, se_X7_here, se_X7_in, bI_eq, inL_lit, q2, c, qt, q5, d])
            ((repeat' (with_reducible first | apply And.intro | intro _)) <;> first | (with_reducible assumption) | (with_reducible exact Nat.zero_le _) | contradiction | (simp only [Option.toList_none, Option.toList_some] at hr; with_reducible assumption) | (simp_all; done) | assumption)
          · have d := bnot d
            (refine nx1_ok C cut_X7_readsOrder 1000 ?_; simp only [w_X7_readsOrder, ops_eq, xst_eq, call_eq, oK_eq, Option.toList_some, Option.toList_none, List.cons_append, List.nil_append, List.length_cons, List.length_nil, true_and, and_true, Nat.reduceAdd, aW_F, aW_A, aW_P, aW_w, abs_eq, O_asti_eq, v170, cl_eq, ST_id, MT_gs, ST_gs, PT_gs, ZT_gs, NT_gs, ET_gs, se_X7_here, se_X7_in, bI_eq, inL_lit, q2, c, qt, q5, d])
            ((repeat' (with_reducible first | apply And.intro | intro _)) <;> first | (with_reducible assumption) | (with_reducible exact Nat.zero_le _) | contradiction | (simp only [Option.toList_none, Option.toList_some] at hr; with_reducible assumption) | (simp_all; done) | assumption)
        | succ f ih =>
          intro j T hj q1 q2 q3 q4
          have qt : T.tok := tok_pl1 q3 q1 (by omega)
          have q5 : T.place < nI (p + 1) + 3 := by
            rw [q1, show (3 : Int32) = nI 3 from rfl, nI_add, nI_ltI (by omega) (by omega)]
            omega
          by_cases d : inR T.here 48 57 = true
          · have q6 : MT.digs7 (f + 1) T = MT.digs7 f ((T.sNumber (10 * T.number + T.here - 48)).sPlace (T.place + 1)) := if_pos d
            have hn := ih (j + 1) ((T.sNumber (10 * T.number + T.here - 48)).sPlace (T.place + 1)) (by omega) (by show T.place + 1 = _; rw [q1, nI_1]; rfl) q2 q3 (q6.symm.trans q4)
            clear ih q4 q6 q1 q3 eo e2 e3 ht hpl hM h143
            (refine nx1_ok C cut_X7_readsOrder 1000 ?_; simp only [w_X7_readsOrder, ops_eq, xst_eq, call_eq, oK_eq, Option.toList_some, Option.toList_none, List.cons_append, List.nil_append, List.length_cons, List.length_nil, true_and, and_true, Nat.reduceAdd, aW_F, aW_A, aW_P, aW_w, abs_eq, O_asti_eq, v170, cl_eq, ST_id, MT_gs, ST_gs, PT_gs, ZT_gs, NT_gs, ET_gs, se_X7_here, se_X7_in, bI_eq, inL_lit, q2, c, qt, q5, d])
            ((repeat' (with_reducible first | apply And.intro | intro _)) <;> first | (with_reducible assumption) | (with_reducible exact Nat.zero_le _) | contradiction | (simp only [Option.toList_none, Option.toList_some] at hr; with_reducible assumption) | (simp_all; done) | assumption)
          · have q6 : MT.digs7 (f + 1) T = T := if_neg d
            rw [q6] at q4
            rw [← q4] at h143
            have d := bnot d
            clear ih q4 q6 q1 q3 eo e2 e3 ht hpl hM
            (refine nx1_ok C cut_X7_readsOrder 1000 ?_; simp only [w_X7_readsOrder, ops_eq, xst_eq, call_eq, oK_eq, Option.toList_some, Option.toList_none, List.cons_append, List.nil_append, List.length_cons, List.length_nil, true_and, and_true, Nat.reduceAdd, aW_F, aW_A, aW_P, aW_w, abs_eq, O_asti_eq, v170, cl_eq, ST_id, MT_gs, ST_gs, PT_gs, ZT_gs, NT_gs, ET_gs, se_X7_here, se_X7_in, bI_eq, inL_lit, q2, c, qt, q5, d])
            ((repeat' (with_reducible first | apply And.intro | intro _)) <;> first | (with_reducible assumption) | (with_reducible exact Nat.zero_le _) | contradiction | (simp only [Option.toList_none, Option.toList_some] at hr; with_reducible assumption) | (simp_all; done) | assumption)
      exact loop 3 0 M.rd2 rfl e2 eo e3 rfl
  clear h143
  have ep1 : M.place + 1 = nI (p + 1) := by rw [ep, nI_1]
  have h65 : let5 M.here = true → Gd E aW 65 [some (.ref 0), none, none] [] (S, (M.sOrder M.here).sPlace (M.place + 1), fl) := by
    intro hl
    have h75 := h75 hl
    unfold MT.rd2 at h75
    rw [ep1] at h75 ⊢
    clear hr
    (refine nx1_ok C cut_X7_readsOrder 1000 ?_; simp only [w_X7_readsOrder, ops_eq, xst_eq, call_eq, oK_eq, Option.toList_some, Option.toList_none, List.cons_append, List.nil_append, List.length_cons, List.length_nil, true_and, and_true, Nat.reduceAdd, aW_F, aW_A, aW_P, aW_w, abs_eq, O_asti_eq, v170, cl_eq, ST_id, MT_gs, ST_gs, PT_gs, ZT_gs, NT_gs, ET_gs, se_X7_here, se_X7_in])
    ((repeat' (with_reducible first | apply And.intro | intro _)) <;> first | (with_reducible assumption) | (with_reducible exact Nat.zero_le _) | contradiction | (simp only [Option.toList_none, Option.toList_some] at hr; with_reducible assumption) | (simp_all; done) | assumption)
  clear h75
  by_cases c : let5 M.here = true
  · have h65 := h65 c
    unfold let5 at c
    simp only [decide_eq_true_eq] at c
    clear hr hpl ht
    rcases c with c | c | c | c | c
    · (refine nx_ok C (cuts := cut_X7_readsOrder) 1000 _ _ _ _ ?_; simp only [w_X7_readsOrder, ops_eq, xst_eq, call_eq, oK_eq, Option.toList_some, Option.toList_none, List.cons_append, List.nil_append, List.length_cons, List.length_nil, true_and, and_true, Nat.reduceAdd, aW_F, aW_A, aW_P, aW_w, abs_eq, O_asti_eq, v170, cl_eq, ST_id, MT_gs, ST_gs, PT_gs, ZT_gs, NT_gs, ET_gs, se_X7_here, se_X7_in, hM, c])
      rw [c] at h65
      ((repeat' (with_reducible first | apply And.intro | intro _)) <;> first | (with_reducible assumption) | (with_reducible exact Nat.zero_le _) | contradiction | (simp only [Option.toList_none, Option.toList_some] at hr; with_reducible assumption) | (simp_all; done) | assumption)
    · (refine nx_ok C (cuts := cut_X7_readsOrder) 1000 _ _ _ _ ?_; simp only [w_X7_readsOrder, ops_eq, xst_eq, call_eq, oK_eq, Option.toList_some, Option.toList_none, List.cons_append, List.nil_append, List.length_cons, List.length_nil, true_and, and_true, Nat.reduceAdd, aW_F, aW_A, aW_P, aW_w, abs_eq, O_asti_eq, v170, cl_eq, ST_id, MT_gs, ST_gs, PT_gs, ZT_gs, NT_gs, ET_gs, se_X7_here, se_X7_in, hM, c])
      rw [c] at h65
      ((repeat' (with_reducible first | apply And.intro | intro _)) <;> first | (with_reducible assumption) | (with_reducible exact Nat.zero_le _) | contradiction | (simp only [Option.toList_none, Option.toList_some] at hr; with_reducible assumption) | (simp_all; done) | assumption)
    · (refine nx_ok C (cuts := cut_X7_readsOrder) 1000 _ _ _ _ ?_; simp only [w_X7_readsOrder, ops_eq, xst_eq, call_eq, oK_eq, Option.toList_some, Option.toList_none, List.cons_append, List.nil_append, List.length_cons, List.length_nil, true_and, and_true, Nat.reduceAdd, aW_F, aW_A, aW_P, aW_w, abs_eq, O_asti_eq, v170, cl_eq, ST_id, MT_gs, ST_gs, PT_gs, ZT_gs, NT_gs, ET_gs, se_X7_here, se_X7_in, hM, c])
      rw [c] at h65
      ((repeat' (with_reducible first | apply And.intro | intro _)) <;> first | (with_reducible assumption) | (with_reducible exact Nat.zero_le _) | contradiction | (simp only [Option.toList_none, Option.toList_some] at hr; with_reducible assumption) | (simp_all; done) | assumption)
    · (refine nx_ok C (cuts := cut_X7_readsOrder) 1000 _ _ _ _ ?_; simp only [w_X7_readsOrder, ops_eq, xst_eq, call_eq, oK_eq, Option.toList_some, Option.toList_none, List.cons_append, List.nil_append, List.length_cons, List.length_nil, true_and, and_true, Nat.reduceAdd, aW_F, aW_A, aW_P, aW_w, abs_eq, O_asti_eq, v170, cl_eq, ST_id, MT_gs, ST_gs, PT_gs, ZT_gs, NT_gs, ET_gs, se_X7_here, se_X7_in, hM, c])
      rw [c] at h65
      ((repeat' (with_reducible first | apply And.intro | intro _)) <;> first | (with_reducible assumption) | (with_reducible exact Nat.zero_le _) | contradiction | (simp only [Option.toList_none, Option.toList_some] at hr; with_reducible assumption) | (simp_all; done) | assumption)
    · (refine nx_ok C (cuts := cut_X7_readsOrder) 1000 _ _ _ _ ?_; simp only [w_X7_readsOrder, ops_eq, xst_eq, call_eq, oK_eq, Option.toList_some, Option.toList_none, List.cons_append, List.nil_append, List.length_cons, List.length_nil, true_and, and_true, Nat.reduceAdd, aW_F, aW_A, aW_P, aW_w, abs_eq, O_asti_eq, v170, cl_eq, ST_id, MT_gs, ST_gs, PT_gs, ZT_gs, NT_gs, ET_gs, se_X7_here, se_X7_in, hM, c])
      rw [c] at h65
      ((repeat' (with_reducible first | apply And.intro | intro _)) <;> first | (with_reducible assumption) | (with_reducible exact Nat.zero_le _) | contradiction | (simp only [Option.toList_none, Option.toList_some] at hr; with_reducible assumption) | (simp_all; done) | assumption)
  · have c := bnot c
    have e : M.rdo = (false, (M.sOrder M.here).sPlace (M.place + 1)) := if_pos c
    rw [e] at hr
    unfold let5 at c
    simp only [decide_eq_false_iff_not, not_or] at c
    obtain ⟨c1, c2, c3, c4, c5⟩ := c
    have hr : Gd E aW 100000 [] [.int 0] (S, (M.sOrder M.here).sPlace (M.place + 1), fl) := hr
    clear h65 e hpl ht
    (refine nx_ok C (cuts := cut_X7_readsOrder) 1000 _ _ _ _ ?_; simp only [w_X7_readsOrder, ops_eq, xst_eq, call_eq, oK_eq, Option.toList_some, Option.toList_none, List.cons_append, List.nil_append, List.length_cons, List.length_nil, true_and, and_true, Nat.reduceAdd, aW_F, aW_A, aW_P, aW_w, abs_eq, O_asti_eq, v170, cl_eq, ST_id, MT_gs, ST_gs, PT_gs, ZT_gs, NT_gs, ET_gs, se_X7_here, se_X7_in, bI_eq, hM, c1, c2, c3, c4, c5])
    ((repeat' (with_reducible first | apply And.intro | intro _)) <;> first | (with_reducible assumption) | (with_reducible exact Nat.zero_le _) | contradiction | (simp only [Option.toList_none, Option.toList_some] at hr; with_reducible assumption) | (simp_all; done) | assumption)
def spc_X7_readsOrder (S : ST) (M : MT) (fl : Bool)  (K : Option Value → QT → Prop) : Prop := (isN M.textLong M.tn 60 ∧ isN M.place M.pl 100) ∧ K (some (.int (bI M.rdo.1))) ((S, M.rdo.2, fl))
def sp_X7_readsOrder : Sp QT := fun av q K => match av with
  | [.ref 0] => spc_X7_readsOrder q.1 q.2.1 q.2.2  K
  | _ => False
theorem se_X7_readsOrder (S : ST) (M : MT) (fl : Bool)  (K : Option Value → QT → Prop) : sp_X7_readsOrder [.ref 0] (S, M, fl) K = ((isN M.textLong M.tn 60 ∧ isN M.place M.pl 100) ∧ K (some (.int (bI M.rdo.1))) ((S, M.rdo.2, fl))) := rfl
theorem spok_X7_readsOrder : SpOk yX7_readsOrder cX7_readsOrder 3 (some .boolean) 1 aW sp_X7_readsOrder := by
  intro av q K h
  unfold sp_X7_readsOrder at h
  split at h
  · refine ⟨_, _, ?_, con_X7_readsOrder q.1 q.2.1 q.2.2  h.1, h.2⟩; trivial
  · exact h.elim
