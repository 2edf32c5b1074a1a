/-! ===== the reference: the cascade, the rotation, minutes ===== -/
def ST.cA (S : ST) : Prop := ¬ oI (S.P.inOrd 0) = -1 ∧ ¬ S.toStart < S.settings 5
def ST.cB (S : ST) : Prop := ¬ S.toStop < S.settings 6 ∧ (1 < S.P.running ∨ S.P.has S.P.vrb = false)
theorem casc (S : ST) : (S.cA → S.cascade = (S.start (oI (S.P.inOrd 0)) (S.settings 4)).anew) ∧ (¬ S.cA → S.cB → S.cascade = (S.stop S.P.nextStop).anew) ∧ (¬ S.cA → ¬ S.cB → ¬ S.toSleep < S.settings 8 → S.cascade = ((S.stop S.P.vrb).event 2 (-1)).anew) ∧ (¬ S.cA → ¬ S.cB → S.toSleep < S.settings 8 → S.cascade = S) := by
  unfold ST.cA ST.cB ST.cascade ST.idleB ST.cascade1
  refine ⟨fun a => ?_, fun a b => ?_, fun a b c => ?_, fun a b c => ?_⟩
  · rw [if_neg (fun z => (of_decide_eq_true z).1 a), if_pos a]
  · rw [if_neg (fun z => (of_decide_eq_true z).2.1 b), if_neg a, if_pos b]
  · rw [if_neg (fun z => c (of_decide_eq_true z).2.2), if_neg a, if_neg b]
  · rw [if_pos (decide_eq_true ⟨a, b, c⟩)]
def cod_X7_cascade : List (Nat × Op QT) := [(0, O_aload 0 1), (1, O_getf aW 7 0), (4, O_int 10 2), (6, O_ald aW 0), (7, O_aload 0 1), (8, O_int 5 1), (9, O_callV 1 0 (fun S => S) (fun _ S' => S') sp_X7_setting), (12, O_icmp_lt 40), (15, O_aload 0 1), (16, O_int 0 1), (17, O_callV 1 0 (fun S => S) (fun _ S' => S') sp_X7_ready), (20, O_int (-1) 1), (21, O_icmp_eq 40), (24, O_aload 0 1), (25, O_aload 0 1), (26, O_int 0 1), (27, O_callV 1 0 (fun S => S) (fun _ S' => S') sp_X7_ready), (30, O_callV 1 0 (fun S => S) (fun _ S' => S') sp_X7_start), (33, O_aload 0 1), (34, O_callV 0 0 (fun S => S) (fun _ S' => S') sp_X7_beginAnew), (37, O_goto 115), (40, O_aload 0 1), (41, O_getf aW 7 0), (44, O_int 11 2), (46, O_ald aW 0), (47, O_aload 0 1), (48, O_int 6 2), (50, O_callV 1 0 (fun S => S) (fun _ S' => S') sp_X7_setting), (53, O_icmp_lt 79), (56, O_aload 0 1), (57, O_callV 0 0 (fun S => S) (fun _ S' => S') sp_X7_longest), (60, O_int (-1) 1), (61, O_icmp_eq 79), (64, O_aload 0 1), (65, O_aload 0 1), (66, O_callV 0 0 (fun S => S) (fun _ S' => S') sp_X7_longest), (69, O_callV 1 0 (fun S => S) (fun _ S' => S') sp_X7_stop), (72, O_aload 0 1), (73, O_callV 0 0 (fun S => S) (fun _ S' => S') sp_X7_beginAnew), (76, O_goto 115), (79, O_aload 0 1), (80, O_getf aW 7 0), (83, O_int 12 2), (85, O_ald aW 0), (86, O_aload 0 1), (87, O_int 8 2), (89, O_callV 1 0 (fun S => S) (fun _ S' => S') sp_X7_setting), (92, O_icmp_lt 115), (95, O_aload 0 1), (96, O_aload 0 1), (97, O_getf aW 7 0), (100, O_int 4 1), (101, O_ald aW 0), (102, O_callV 1 0 (fun S => S) (fun _ S' => S') sp_X7_stop), (105, O_aload 0 1), (106, O_int 2 1), (107, O_int (-1) 1), (108, O_callV 2 0 (fun S => S) (fun _ S' => S') spa_X7_event), (111, O_aload 0 1), (112, O_callV 0 0 (fun S => S) (fun _ S' => S') sp_X7_beginAnew), (115, O_vret)]
abbrev cut_X7_cascade : List Nat := [40, 79]
set_option maxRecDepth 100000 in
theorem okc_X7_cascade {E : En} (F : Fx E RX7 cX7_cascade 1 5) (G : Fr E none) : CodOk E aW cod_X7_cascade := by
  unfold CodOk cod_X7_cascade
  refine List.forall_mem_cons.mpr ⟨ok_aload_n F dX7_cascade_0 rfl (by decide), ?_⟩
  refine List.forall_mem_cons.mpr ⟨ok_getf F flX7_7 dX7_cascade_1 (by decide), ?_⟩
  refine List.forall_mem_cons.mpr ⟨ok_bipush F dX7_cascade_4 (by decide) (by decide), ?_⟩
  refine List.forall_mem_cons.mpr ⟨ok_iald F dX7_cascade_6 (by decide), ?_⟩
  refine List.forall_mem_cons.mpr ⟨ok_aload_n F dX7_cascade_7 rfl (by decide), ?_⟩
  refine List.forall_mem_cons.mpr ⟨ok_iconst F dX7_cascade_8 (by decide) (by decide), ?_⟩
  refine List.forall_mem_cons.mpr ⟨ok_callV F spok_X7_setting (ln_id aW) rcv_aW (by decide +kernel) (by decide) dX7_cascade_9 (by decide), ?_⟩
  refine List.forall_mem_cons.mpr ⟨ok_icmp_lt F dX7_cascade_12 (by decide) (by decide) (by decide), ?_⟩
  refine List.forall_mem_cons.mpr ⟨ok_aload_n F dX7_cascade_15 rfl (by decide), ?_⟩
  refine List.forall_mem_cons.mpr ⟨ok_iconst F dX7_cascade_16 (by decide) (by decide), ?_⟩
  refine List.forall_mem_cons.mpr ⟨ok_callV F spok_X7_ready (ln_id aW) rcv_aW (by decide +kernel) (by decide) dX7_cascade_17 (by decide), ?_⟩
  refine List.forall_mem_cons.mpr ⟨ok_iconst F dX7_cascade_20 (by decide) (by decide), ?_⟩
  refine List.forall_mem_cons.mpr ⟨ok_icmp_eq F dX7_cascade_21 (by decide) (by decide) (by decide), ?_⟩
  refine List.forall_mem_cons.mpr ⟨ok_aload_n F dX7_cascade_24 rfl (by decide), ?_⟩
  refine List.forall_mem_cons.mpr ⟨ok_aload_n F dX7_cascade_25 rfl (by decide), ?_⟩
  refine List.forall_mem_cons.mpr ⟨ok_iconst F dX7_cascade_26 (by decide) (by decide), ?_⟩
  refine List.forall_mem_cons.mpr ⟨ok_callV F spok_X7_ready (ln_id aW) rcv_aW (by decide +kernel) (by decide) dX7_cascade_27 (by decide), ?_⟩
  refine List.forall_mem_cons.mpr ⟨ok_callV F spok_X7_start (ln_id aW) rcv_aW (by decide +kernel) (by decide) dX7_cascade_30 (by decide), ?_⟩
  refine List.forall_mem_cons.mpr ⟨ok_aload_n F dX7_cascade_33 rfl (by decide), ?_⟩
  refine List.forall_mem_cons.mpr ⟨ok_callV F spok_X7_beginAnew (ln_id aW) rcv_aW (by decide +kernel) (by decide) dX7_cascade_34 (by decide), ?_⟩
  refine List.forall_mem_cons.mpr ⟨ok_goto F dX7_cascade_37 (by decide) (by decide) (by decide), ?_⟩
  refine List.forall_mem_cons.mpr ⟨ok_aload_n F dX7_cascade_40 rfl (by decide), ?_⟩
  refine List.forall_mem_cons.mpr ⟨ok_getf F flX7_7 dX7_cascade_41 (by decide), ?_⟩
  refine List.forall_mem_cons.mpr ⟨ok_bipush F dX7_cascade_44 (by decide) (by decide), ?_⟩
  refine List.forall_mem_cons.mpr ⟨ok_iald F dX7_cascade_46 (by decide), ?_⟩
  refine List.forall_mem_cons.mpr ⟨ok_aload_n F dX7_cascade_47 rfl (by decide), ?_⟩
  refine List.forall_mem_cons.mpr ⟨ok_bipush F dX7_cascade_48 (by decide) (by decide), ?_⟩
  refine List.forall_mem_cons.mpr ⟨ok_callV F spok_X7_setting (ln_id aW) rcv_aW (by decide +kernel) (by decide) dX7_cascade_50 (by decide), ?_⟩
  refine List.forall_mem_cons.mpr ⟨ok_icmp_lt F dX7_cascade_53 (by decide) (by decide) (by decide), ?_⟩
  refine List.forall_mem_cons.mpr ⟨ok_aload_n F dX7_cascade_56 rfl (by decide), ?_⟩
  refine List.forall_mem_cons.mpr ⟨ok_callV F spok_X7_longest (ln_id aW) rcv_aW (by decide +kernel) (by decide) dX7_cascade_57 (by decide), ?_⟩
  refine List.forall_mem_cons.mpr ⟨ok_iconst F dX7_cascade_60 (by decide) (by decide), ?_⟩
  refine List.forall_mem_cons.mpr ⟨ok_icmp_eq F dX7_cascade_61 (by decide) (by decide) (by decide), ?_⟩
  refine List.forall_mem_cons.mpr ⟨ok_aload_n F dX7_cascade_64 rfl (by decide), ?_⟩
  refine List.forall_mem_cons.mpr ⟨ok_aload_n F dX7_cascade_65 rfl (by decide), ?_⟩
  refine List.forall_mem_cons.mpr ⟨ok_callV F spok_X7_longest (ln_id aW) rcv_aW (by decide +kernel) (by decide) dX7_cascade_66 (by decide), ?_⟩
  refine List.forall_mem_cons.mpr ⟨ok_callV F spok_X7_stop (ln_id aW) rcv_aW (by decide +kernel) (by decide) dX7_cascade_69 (by decide), ?_⟩
  refine List.forall_mem_cons.mpr ⟨ok_aload_n F dX7_cascade_72 rfl (by decide), ?_⟩
  refine List.forall_mem_cons.mpr ⟨ok_callV F spok_X7_beginAnew (ln_id aW) rcv_aW (by decide +kernel) (by decide) dX7_cascade_73 (by decide), ?_⟩
  refine List.forall_mem_cons.mpr ⟨ok_goto F dX7_cascade_76 (by decide) (by decide) (by decide), ?_⟩
  refine List.forall_mem_cons.mpr ⟨ok_aload_n F dX7_cascade_79 rfl (by decide), ?_⟩
  refine List.forall_mem_cons.mpr ⟨ok_getf F flX7_7 dX7_cascade_80 (by decide), ?_⟩
  refine List.forall_mem_cons.mpr ⟨ok_bipush F dX7_cascade_83 (by decide) (by decide), ?_⟩
  refine List.forall_mem_cons.mpr ⟨ok_iald F dX7_cascade_85 (by decide), ?_⟩
  refine List.forall_mem_cons.mpr ⟨ok_aload_n F dX7_cascade_86 rfl (by decide), ?_⟩
  refine List.forall_mem_cons.mpr ⟨ok_bipush F dX7_cascade_87 (by decide) (by decide), ?_⟩
  refine List.forall_mem_cons.mpr ⟨ok_callV F spok_X7_setting (ln_id aW) rcv_aW (by decide +kernel) (by decide) dX7_cascade_89 (by decide), ?_⟩
  refine List.forall_mem_cons.mpr ⟨ok_icmp_lt F dX7_cascade_92 (by decide) (by decide) (by decide), ?_⟩
  refine List.forall_mem_cons.mpr ⟨ok_aload_n F dX7_cascade_95 rfl (by decide), ?_⟩
  refine List.forall_mem_cons.mpr ⟨ok_aload_n F dX7_cascade_96 rfl (by decide), ?_⟩
  refine List.forall_mem_cons.mpr ⟨ok_getf F flX7_7 dX7_cascade_97 (by decide), ?_⟩
  refine List.forall_mem_cons.mpr ⟨ok_iconst F dX7_cascade_100 (by decide) (by decide), ?_⟩
  refine List.forall_mem_cons.mpr ⟨ok_iald F dX7_cascade_101 (by decide), ?_⟩
  refine List.forall_mem_cons.mpr ⟨ok_callV F spok_X7_stop (ln_id aW) rcv_aW (by decide +kernel) (by decide) dX7_cascade_102 (by decide), ?_⟩
  refine List.forall_mem_cons.mpr ⟨ok_aload_n F dX7_cascade_105 rfl (by decide), ?_⟩
  refine List.forall_mem_cons.mpr ⟨ok_iconst F dX7_cascade_106 (by decide) (by decide), ?_⟩
  refine List.forall_mem_cons.mpr ⟨ok_iconst F dX7_cascade_107 (by decide) (by decide), ?_⟩
  refine List.forall_mem_cons.mpr ⟨ok_callV F spoka_X7_event (ln_id aW) rcv_aW (by decide +kernel) (by decide) dX7_cascade_108 (by decide), ?_⟩
  refine List.forall_mem_cons.mpr ⟨ok_aload_n F dX7_cascade_111 rfl (by decide), ?_⟩
  refine List.forall_mem_cons.mpr ⟨ok_callV F spok_X7_beginAnew (ln_id aW) rcv_aW (by decide +kernel) (by decide) dX7_cascade_112 (by decide), ?_⟩
  refine List.forall_mem_cons.mpr ⟨ok_vret F G dX7_cascade_115 (by decide), ?_⟩
  exact fun _ h => absurd h List.not_mem_nil
set_option maxRecDepth 100000 in
theorem w_X7_cascade : (∀ (K : Kt QT) (n : Nat) (L : xL) (st : List Value) (S : QT), nx cod_X7_cascade cut_X7_cascade K (n + 1) 0 L st S = (O_aload 0 1) (nx cod_X7_cascade cut_X7_cascade K n) 0 L st S) ∧
  (∀ (K : Kt QT) (n : Nat) (L : xL) (st : List Value) (S : QT), nx cod_X7_cascade cut_X7_cascade K (n + 1) 1 L st S = (O_getf aW 7 0) (nx cod_X7_cascade cut_X7_cascade K n) 1 L st S) ∧
  (∀ (K : Kt QT) (n : Nat) (L : xL) (st : List Value) (S : QT), nx cod_X7_cascade cut_X7_cascade K (n + 1) 4 L st S = (O_int 10 2) (nx cod_X7_cascade cut_X7_cascade K n) 4 L st S) ∧
  (∀ (K : Kt QT) (n : Nat) (L : xL) (st : List Value) (S : QT), nx cod_X7_cascade cut_X7_cascade K (n + 1) 6 L st S = (O_ald aW 0) (nx cod_X7_cascade cut_X7_cascade K n) 6 L st S) ∧
  (∀ (K : Kt QT) (n : Nat) (L : xL) (st : List Value) (S : QT), nx cod_X7_cascade cut_X7_cascade K (n + 1) 7 L st S = (O_aload 0 1) (nx cod_X7_cascade cut_X7_cascade K n) 7 L st S) ∧
  (∀ (K : Kt QT) (n : Nat) (L : xL) (st : List Value) (S : QT), nx cod_X7_cascade cut_X7_cascade K (n + 1) 8 L st S = (O_int 5 1) (nx cod_X7_cascade cut_X7_cascade K n) 8 L st S) ∧
  (∀ (K : Kt QT) (n : Nat) (L : xL) (st : List Value) (S : QT), nx cod_X7_cascade cut_X7_cascade K (n + 1) 9 L st S = (O_callV 1 0 (fun S => S) (fun _ S' => S') sp_X7_setting) (nx cod_X7_cascade cut_X7_cascade K n) 9 L st S) ∧
  (∀ (K : Kt QT) (n : Nat) (L : xL) (st : List Value) (S : QT), nx cod_X7_cascade cut_X7_cascade K (n + 1) 12 L st S = (O_icmp_lt 40) (nx cod_X7_cascade cut_X7_cascade K n) 12 L st S) ∧
  (∀ (K : Kt QT) (n : Nat) (L : xL) (st : List Value) (S : QT), nx cod_X7_cascade cut_X7_cascade K (n + 1) 15 L st S = (O_aload 0 1) (nx cod_X7_cascade cut_X7_cascade K n) 15 L st S) ∧
  (∀ (K : Kt QT) (n : Nat) (L : xL) (st : List Value) (S : QT), nx cod_X7_cascade cut_X7_cascade K (n + 1) 16 L st S = (O_int 0 1) (nx cod_X7_cascade cut_X7_cascade K n) 16 L st S) ∧
  (∀ (K : Kt QT) (n : Nat) (L : xL) (st : List Value) (S : QT), nx cod_X7_cascade cut_X7_cascade K (n + 1) 17 L st S = (O_callV 1 0 (fun S => S) (fun _ S' => S') sp_X7_ready) (nx cod_X7_cascade cut_X7_cascade K n) 17 L st S) ∧
  (∀ (K : Kt QT) (n : Nat) (L : xL) (st : List Value) (S : QT), nx cod_X7_cascade cut_X7_cascade K (n + 1) 20 L st S = (O_int (-1) 1) (nx cod_X7_cascade cut_X7_cascade K n) 20 L st S) ∧
  (∀ (K : Kt QT) (n : Nat) (L : xL) (st : List Value) (S : QT), nx cod_X7_cascade cut_X7_cascade K (n + 1) 21 L st S = (O_icmp_eq 40) (nx cod_X7_cascade cut_X7_cascade K n) 21 L st S) ∧
  (∀ (K : Kt QT) (n : Nat) (L : xL) (st : List Value) (S : QT), nx cod_X7_cascade cut_X7_cascade K (n + 1) 24 L st S = (O_aload 0 1) (nx cod_X7_cascade cut_X7_cascade K n) 24 L st S) ∧
  (∀ (K : Kt QT) (n : Nat) (L : xL) (st : List Value) (S : QT), nx cod_X7_cascade cut_X7_cascade K (n + 1) 25 L st S = (O_aload 0 1) (nx cod_X7_cascade cut_X7_cascade K n) 25 L st S) ∧
  (∀ (K : Kt QT) (n : Nat) (L : xL) (st : List Value) (S : QT), nx cod_X7_cascade cut_X7_cascade K (n + 1) 26 L st S = (O_int 0 1) (nx cod_X7_cascade cut_X7_cascade K n) 26 L st S) ∧
  (∀ (K : Kt QT) (n : Nat) (L : xL) (st : List Value) (S : QT), nx cod_X7_cascade cut_X7_cascade K (n + 1) 27 L st S = (O_callV 1 0 (fun S => S) (fun _ S' => S') sp_X7_ready) (nx cod_X7_cascade cut_X7_cascade K n) 27 L st S) ∧
  (∀ (K : Kt QT) (n : Nat) (L : xL) (st : List Value) (S : QT), nx cod_X7_cascade cut_X7_cascade K (n + 1) 30 L st S = (O_callV 1 0 (fun S => S) (fun _ S' => S') sp_X7_start) (nx cod_X7_cascade cut_X7_cascade K n) 30 L st S) ∧
  (∀ (K : Kt QT) (n : Nat) (L : xL) (st : List Value) (S : QT), nx cod_X7_cascade cut_X7_cascade K (n + 1) 33 L st S = (O_aload 0 1) (nx cod_X7_cascade cut_X7_cascade K n) 33 L st S) ∧
  (∀ (K : Kt QT) (n : Nat) (L : xL) (st : List Value) (S : QT), nx cod_X7_cascade cut_X7_cascade K (n + 1) 34 L st S = (O_callV 0 0 (fun S => S) (fun _ S' => S') sp_X7_beginAnew) (nx cod_X7_cascade cut_X7_cascade K n) 34 L st S) ∧
  (∀ (K : Kt QT) (n : Nat) (L : xL) (st : List Value) (S : QT), nx cod_X7_cascade cut_X7_cascade K (n + 1) 37 L st S = (O_goto 115) (nx cod_X7_cascade cut_X7_cascade K n) 37 L st S) ∧
  (∀ (K : Kt QT) (n : Nat) (L : xL) (st : List Value) (S : QT), nx cod_X7_cascade cut_X7_cascade K (n + 1) 40 L st S = K 40 L st S) ∧
  (∀ (K : Kt QT) (n : Nat) (L : xL) (st : List Value) (S : QT), nx1 cod_X7_cascade cut_X7_cascade K n 40 L st S = (O_aload 0 1) (nx cod_X7_cascade cut_X7_cascade K n) 40 L st S) ∧
  (∀ (K : Kt QT) (n : Nat) (L : xL) (st : List Value) (S : QT), nx cod_X7_cascade cut_X7_cascade K (n + 1) 41 L st S = (O_getf aW 7 0) (nx cod_X7_cascade cut_X7_cascade K n) 41 L st S) ∧
  (∀ (K : Kt QT) (n : Nat) (L : xL) (st : List Value) (S : QT), nx cod_X7_cascade cut_X7_cascade K (n + 1) 44 L st S = (O_int 11 2) (nx cod_X7_cascade cut_X7_cascade K n) 44 L st S) ∧
  (∀ (K : Kt QT) (n : Nat) (L : xL) (st : List Value) (S : QT), nx cod_X7_cascade cut_X7_cascade K (n + 1) 46 L st S = (O_ald aW 0) (nx cod_X7_cascade cut_X7_cascade K n) 46 L st S) ∧
  (∀ (K : Kt QT) (n : Nat) (L : xL) (st : List Value) (S : QT), nx cod_X7_cascade cut_X7_cascade K (n + 1) 47 L st S = (O_aload 0 1) (nx cod_X7_cascade cut_X7_cascade K n) 47 L st S) ∧
  (∀ (K : Kt QT) (n : Nat) (L : xL) (st : List Value) (S : QT), nx cod_X7_cascade cut_X7_cascade K (n + 1) 48 L st S = (O_int 6 2) (nx cod_X7_cascade cut_X7_cascade K n) 48 L st S) ∧
  (∀ (K : Kt QT) (n : Nat) (L : xL) (st : List Value) (S : QT), nx cod_X7_cascade cut_X7_cascade K (n + 1) 50 L st S = (O_callV 1 0 (fun S => S) (fun _ S' => S') sp_X7_setting) (nx cod_X7_cascade cut_X7_cascade K n) 50 L st S) ∧
  (∀ (K : Kt QT) (n : Nat) (L : xL) (st : List Value) (S : QT), nx cod_X7_cascade cut_X7_cascade K (n + 1) 53 L st S = (O_icmp_lt 79) (nx cod_X7_cascade cut_X7_cascade K n) 53 L st S) ∧
  (∀ (K : Kt QT) (n : Nat) (L : xL) (st : List Value) (S : QT), nx cod_X7_cascade cut_X7_cascade K (n + 1) 56 L st S = (O_aload 0 1) (nx cod_X7_cascade cut_X7_cascade K n) 56 L st S) ∧
  (∀ (K : Kt QT) (n : Nat) (L : xL) (st : List Value) (S : QT), nx cod_X7_cascade cut_X7_cascade K (n + 1) 57 L st S = (O_callV 0 0 (fun S => S) (fun _ S' => S') sp_X7_longest) (nx cod_X7_cascade cut_X7_cascade K n) 57 L st S) ∧
  (∀ (K : Kt QT) (n : Nat) (L : xL) (st : List Value) (S : QT), nx cod_X7_cascade cut_X7_cascade K (n + 1) 60 L st S = (O_int (-1) 1) (nx cod_X7_cascade cut_X7_cascade K n) 60 L st S) ∧
  (∀ (K : Kt QT) (n : Nat) (L : xL) (st : List Value) (S : QT), nx cod_X7_cascade cut_X7_cascade K (n + 1) 61 L st S = (O_icmp_eq 79) (nx cod_X7_cascade cut_X7_cascade K n) 61 L st S) ∧
  (∀ (K : Kt QT) (n : Nat) (L : xL) (st : List Value) (S : QT), nx cod_X7_cascade cut_X7_cascade K (n + 1) 64 L st S = (O_aload 0 1) (nx cod_X7_cascade cut_X7_cascade K n) 64 L st S) ∧
  (∀ (K : Kt QT) (n : Nat) (L : xL) (st : List Value) (S : QT), nx cod_X7_cascade cut_X7_cascade K (n + 1) 65 L st S = (O_aload 0 1) (nx cod_X7_cascade cut_X7_cascade K n) 65 L st S) ∧
  (∀ (K : Kt QT) (n : Nat) (L : xL) (st : List Value) (S : QT), nx cod_X7_cascade cut_X7_cascade K (n + 1) 66 L st S = (O_callV 0 0 (fun S => S) (fun _ S' => S') sp_X7_longest) (nx cod_X7_cascade cut_X7_cascade K n) 66 L st S) ∧
  (∀ (K : Kt QT) (n : Nat) (L : xL) (st : List Value) (S : QT), nx cod_X7_cascade cut_X7_cascade K (n + 1) 69 L st S = (O_callV 1 0 (fun S => S) (fun _ S' => S') sp_X7_stop) (nx cod_X7_cascade cut_X7_cascade K n) 69 L st S) ∧
  (∀ (K : Kt QT) (n : Nat) (L : xL) (st : List Value) (S : QT), nx cod_X7_cascade cut_X7_cascade K (n + 1) 72 L st S = (O_aload 0 1) (nx cod_X7_cascade cut_X7_cascade K n) 72 L st S) ∧
  (∀ (K : Kt QT) (n : Nat) (L : xL) (st : List Value) (S : QT), nx cod_X7_cascade cut_X7_cascade K (n + 1) 73 L st S = (O_callV 0 0 (fun S => S) (fun _ S' => S') sp_X7_beginAnew) (nx cod_X7_cascade cut_X7_cascade K n) 73 L st S) ∧
  (∀ (K : Kt QT) (n : Nat) (L : xL) (st : List Value) (S : QT), nx cod_X7_cascade cut_X7_cascade K (n + 1) 76 L st S = (O_goto 115) (nx cod_X7_cascade cut_X7_cascade K n) 76 L st S) ∧
  (∀ (K : Kt QT) (n : Nat) (L : xL) (st : List Value) (S : QT), nx cod_X7_cascade cut_X7_cascade K (n + 1) 79 L st S = K 79 L st S) ∧
  (∀ (K : Kt QT) (n : Nat) (L : xL) (st : List Value) (S : QT), nx1 cod_X7_cascade cut_X7_cascade K n 79 L st S = (O_aload 0 1) (nx cod_X7_cascade cut_X7_cascade K n) 79 L st S) ∧
  (∀ (K : Kt QT) (n : Nat) (L : xL) (st : List Value) (S : QT), nx cod_X7_cascade cut_X7_cascade K (n + 1) 80 L st S = (O_getf aW 7 0) (nx cod_X7_cascade cut_X7_cascade K n) 80 L st S) ∧
  (∀ (K : Kt QT) (n : Nat) (L : xL) (st : List Value) (S : QT), nx cod_X7_cascade cut_X7_cascade K (n + 1) 83 L st S = (O_int 12 2) (nx cod_X7_cascade cut_X7_cascade K n) 83 L st S) ∧
  (∀ (K : Kt QT) (n : Nat) (L : xL) (st : List Value) (S : QT), nx cod_X7_cascade cut_X7_cascade K (n + 1) 85 L st S = (O_ald aW 0) (nx cod_X7_cascade cut_X7_cascade K n) 85 L st S) ∧
  (∀ (K : Kt QT) (n : Nat) (L : xL) (st : List Value) (S : QT), nx cod_X7_cascade cut_X7_cascade K (n + 1) 86 L st S = (O_aload 0 1) (nx cod_X7_cascade cut_X7_cascade K n) 86 L st S) ∧
  (∀ (K : Kt QT) (n : Nat) (L : xL) (st : List Value) (S : QT), nx cod_X7_cascade cut_X7_cascade K (n + 1) 87 L st S = (O_int 8 2) (nx cod_X7_cascade cut_X7_cascade K n) 87 L st S) ∧
  (∀ (K : Kt QT) (n : Nat) (L : xL) (st : List Value) (S : QT), nx cod_X7_cascade cut_X7_cascade K (n + 1) 89 L st S = (O_callV 1 0 (fun S => S) (fun _ S' => S') sp_X7_setting) (nx cod_X7_cascade cut_X7_cascade K n) 89 L st S) ∧
  (∀ (K : Kt QT) (n : Nat) (L : xL) (st : List Value) (S : QT), nx cod_X7_cascade cut_X7_cascade K (n + 1) 92 L st S = (O_icmp_lt 115) (nx cod_X7_cascade cut_X7_cascade K n) 92 L st S) ∧
  (∀ (K : Kt QT) (n : Nat) (L : xL) (st : List Value) (S : QT), nx cod_X7_cascade cut_X7_cascade K (n + 1) 95 L st S = (O_aload 0 1) (nx cod_X7_cascade cut_X7_cascade K n) 95 L st S) ∧
  (∀ (K : Kt QT) (n : Nat) (L : xL) (st : List Value) (S : QT), nx cod_X7_cascade cut_X7_cascade K (n + 1) 96 L st S = (O_aload 0 1) (nx cod_X7_cascade cut_X7_cascade K n) 96 L st S) ∧
  (∀ (K : Kt QT) (n : Nat) (L : xL) (st : List Value) (S : QT), nx cod_X7_cascade cut_X7_cascade K (n + 1) 97 L st S = (O_getf aW 7 0) (nx cod_X7_cascade cut_X7_cascade K n) 97 L st S) ∧
  (∀ (K : Kt QT) (n : Nat) (L : xL) (st : List Value) (S : QT), nx cod_X7_cascade cut_X7_cascade K (n + 1) 100 L st S = (O_int 4 1) (nx cod_X7_cascade cut_X7_cascade K n) 100 L st S) ∧
  (∀ (K : Kt QT) (n : Nat) (L : xL) (st : List Value) (S : QT), nx cod_X7_cascade cut_X7_cascade K (n + 1) 101 L st S = (O_ald aW 0) (nx cod_X7_cascade cut_X7_cascade K n) 101 L st S) ∧
  (∀ (K : Kt QT) (n : Nat) (L : xL) (st : List Value) (S : QT), nx cod_X7_cascade cut_X7_cascade K (n + 1) 102 L st S = (O_callV 1 0 (fun S => S) (fun _ S' => S') sp_X7_stop) (nx cod_X7_cascade cut_X7_cascade K n) 102 L st S) ∧
  (∀ (K : Kt QT) (n : Nat) (L : xL) (st : List Value) (S : QT), nx cod_X7_cascade cut_X7_cascade K (n + 1) 105 L st S = (O_aload 0 1) (nx cod_X7_cascade cut_X7_cascade K n) 105 L st S) ∧
  (∀ (K : Kt QT) (n : Nat) (L : xL) (st : List Value) (S : QT), nx cod_X7_cascade cut_X7_cascade K (n + 1) 106 L st S = (O_int 2 1) (nx cod_X7_cascade cut_X7_cascade K n) 106 L st S) ∧
  (∀ (K : Kt QT) (n : Nat) (L : xL) (st : List Value) (S : QT), nx cod_X7_cascade cut_X7_cascade K (n + 1) 107 L st S = (O_int (-1) 1) (nx cod_X7_cascade cut_X7_cascade K n) 107 L st S) ∧
  (∀ (K : Kt QT) (n : Nat) (L : xL) (st : List Value) (S : QT), nx cod_X7_cascade cut_X7_cascade K (n + 1) 108 L st S = (O_callV 2 0 (fun S => S) (fun _ S' => S') spa_X7_event) (nx cod_X7_cascade cut_X7_cascade K n) 108 L st S) ∧
  (∀ (K : Kt QT) (n : Nat) (L : xL) (st : List Value) (S : QT), nx cod_X7_cascade cut_X7_cascade K (n + 1) 111 L st S = (O_aload 0 1) (nx cod_X7_cascade cut_X7_cascade K n) 111 L st S) ∧
  (∀ (K : Kt QT) (n : Nat) (L : xL) (st : List Value) (S : QT), nx cod_X7_cascade cut_X7_cascade K (n + 1) 112 L st S = (O_callV 0 0 (fun S => S) (fun _ S' => S') sp_X7_beginAnew) (nx cod_X7_cascade cut_X7_cascade K n) 112 L st S) ∧
  (∀ (K : Kt QT) (n : Nat) (L : xL) (st : List Value) (S : QT), nx cod_X7_cascade cut_X7_cascade K (n + 1) 115 L st S = (O_vret) (nx cod_X7_cascade cut_X7_cascade K n) 115 L st S) ∧
  (∀ (K : Kt QT) (n : Nat) (L : xL) (st : List Value) (S : QT), nx cod_X7_cascade cut_X7_cascade K (n + 1) 100000 L st S = K 100000 L st S) := by
  repeat' apply And.intro
  all_goals (intros; rfl)
set_option maxRecDepth 100000 in
theorem mk_X7_cascade {P P' : QT} {r : Option Value}  (body : ∀ E : En, CodOk E aW cod_X7_cascade → Gd E aW 100000 [] r.toList P' → Gd E aW 0 [some (.ref 0)] [] P) : Con yX7_cascade cX7_cascade 1 none 5 aW [.ref 0] P r P' :=
  Con.of (by decide) ((aW_len P').trans (aW_len P).symm) rfl (Nat.le_of_ble_eq_true rfl) (fun E F G hr => body E (okc_X7_cascade F G) hr)
set_option maxRecDepth 10000 in
theorem con_X7_cascade (S : ST) (M : MT) (fl : Bool)  (hp : fl = true ∧ S.inv 2 ∧ (¬ S.toStop < S.settings 6 → 0 < S.P.running) ∧ (¬ S.toSleep < S.settings 8 → ¬ S.P.vrb = -1)) : Con yX7_cascade cX7_cascade 1 none 5 aW [.ref 0] (S, M, fl) (none) ((S.cascade, M, fl)) := by
  refine mk_X7_cascade (fun E C hr => ?_)
  obtain ⟨rfl, hi, f1, f2⟩ := hp
  obtain ⟨k1, k2, k3, k4⟩ := casc S
  have hE := ST.inv_rm (n := 1) hi
  have hP := hi.1
  have ho := hi.1.1
  have h79 : ¬ S.cA → ¬ S.cB → Gd E aW 79 [some (.ref 0)] [] (S, M, true) := by
    intro a b
    by_cases c : S.toSleep < S.settings 8
    · rw [k4 a b c] at hr
      clear k1 k2 k3 k4 f1 f2 a b
      (refine nx1_ok C cut_X7_cascade 1000 ?_; simp only [w_X7_cascade, ops_eq, xst_eq, call_eq, oK_eq, Option.toList_some, Option.toList_none, List.cons_append, List.nil_append, List.length_cons, List.length_nil, true_and, and_true, Nat.reduceAdd, aW_F, aW_A, aW_P, aW_w, abs_eq, O_asti_eq, v170, cl_eq, ST_id, MT_gs, ST_gs, PT_gs, ZT_gs, NT_gs, ET_gs, se_X7_setting, se_X7_ready, se_X7_start, se_X7_beginAnew, se_X7_longest, se_X7_stop, sea_X7_event, v19_eq, c])
      ((repeat' (with_reducible first | apply And.intro | intro _)) <;> first | (with_reducible assumption) | (with_reducible exact Nat.zero_le _) | exact absurd trivial ‹¬True› | (simp_all [ST_id, MT_gs, ST_gs, PT_gs, ZT_gs, NT_gs, ET_gs]; done) | assumption | simp_all)
    · rw [k3 a b c] at hr
      have c2 := f2 c
      have hh : S.P.has S.P.vrb = true := by
        cases z : S.P.has S.P.vrb
        · exact absurd ((PT.vok_has hP).mp z) c2
        · rfl
      have hru : S.P.runs S.P.vrb = true := by
        obtain ⟨w, w1, w2, w3, w4, w5⟩ := PT.vok_lt hP hh
        unfold PT.runs PT.run
        rw [hh, w3]
        simpa using w4
      have hE2 := ST.inv_rm (n := 0) (ST.stop_inv (n := 1) hi S.P.vrb)
      clear k1 k2 k3 k4 f1 f2 a b hi hh
      (refine nx1_ok C cut_X7_cascade 1000 ?_; simp only [w_X7_cascade, ops_eq, xst_eq, call_eq, oK_eq, Option.toList_some, Option.toList_none, List.cons_append, List.nil_append, List.length_cons, List.length_nil, true_and, and_true, Nat.reduceAdd, aW_F, aW_A, aW_P, aW_w, abs_eq, O_asti_eq, v170, cl_eq, ST_id, MT_gs, ST_gs, PT_gs, ZT_gs, NT_gs, ET_gs, se_X7_setting, se_X7_ready, se_X7_start, se_X7_beginAnew, se_X7_longest, se_X7_stop, sea_X7_event, ev_t, v19_eq, v8_eq, c, hP, hE, hE2, hru])
      ((repeat' (with_reducible first | apply And.intro | intro _)) <;> first | (with_reducible assumption) | (with_reducible exact Nat.zero_le _) | exact absurd trivial ‹¬True› | (simp_all [ST_id, MT_gs, ST_gs, PT_gs, ZT_gs, NT_gs, ET_gs]; done) | assumption | simp_all)
  have h40 : ¬ S.cA → Gd E aW 40 [some (.ref 0)] [] (S, M, true) := by
    intro a
    have h79 := h79 a
    by_cases c : S.toStop < S.settings 6
    · have h79 := h79 (fun z => z.1 c)
      clear k1 k2 k3 k4 f1 f2 a hi
      (refine nx1_ok C cut_X7_cascade 1000 ?_; simp only [w_X7_cascade, ops_eq, xst_eq, call_eq, oK_eq, Option.toList_some, Option.toList_none, List.cons_append, List.nil_append, List.length_cons, List.length_nil, true_and, and_true, Nat.reduceAdd, aW_F, aW_A, aW_P, aW_w, abs_eq, O_asti_eq, v170, cl_eq, ST_id, MT_gs, ST_gs, PT_gs, ZT_gs, NT_gs, ET_gs, se_X7_setting, se_X7_ready, se_X7_start, se_X7_beginAnew, se_X7_longest, se_X7_stop, sea_X7_event, v19_eq, c])
      ((repeat' (with_reducible first | apply And.intro | intro _)) <;> first | (with_reducible assumption) | (with_reducible exact Nat.zero_le _) | exact absurd trivial ‹¬True› | (simp_all [ST_id, MT_gs, ST_gs, PT_gs, ZT_gs, NT_gs, ET_gs]; done) | assumption | simp_all)
    · have hs := (stop_facts hP).2 (f1 c)
      by_cases d : S.P.nextStop = -1
      · have h79 := h79 (fun z => absurd d (hs.mpr z.2))
        clear k1 k2 k3 k4 f1 f2 a hi hs
        (refine nx1_ok C cut_X7_cascade 1000 ?_; simp only [w_X7_cascade, ops_eq, xst_eq, call_eq, oK_eq, Option.toList_some, Option.toList_none, List.cons_append, List.nil_append, List.length_cons, List.length_nil, true_and, and_true, Nat.reduceAdd, aW_F, aW_A, aW_P, aW_w, abs_eq, O_asti_eq, v170, cl_eq, ST_id, MT_gs, ST_gs, PT_gs, ZT_gs, NT_gs, ET_gs, se_X7_setting, se_X7_ready, se_X7_start, se_X7_beginAnew, se_X7_longest, se_X7_stop, sea_X7_event, v19_eq, ho, c, d])
        ((repeat' (with_reducible first | apply And.intro | intro _)) <;> first | (with_reducible assumption) | (with_reducible exact Nat.zero_le _) | exact absurd trivial ‹¬True› | (simp_all [ST_id, MT_gs, ST_gs, PT_gs, ZT_gs, NT_gs, ET_gs]; done) | assumption | simp_all)
      · have hb : S.cB := ⟨c, hs.mp d⟩
        rw [k2 a hb] at hr
        have hru : S.P.runs S.P.nextStop = true := by
          rcases S.P.nextStop_ok with ⟨e, _⟩ | ⟨i, hin, e, g⟩
          · exact absurd e d
          · rw [e]
            unfold PT.runs
            rw [PT.n_has ho hin, (ixs ho hin).2.1, g]
            rfl
        clear k1 k2 k3 k4 f1 f2 a hi hs hb h79
        (refine nx1_ok C cut_X7_cascade 1000 ?_; simp only [w_X7_cascade, ops_eq, xst_eq, call_eq, oK_eq, Option.toList_some, Option.toList_none, List.cons_append, List.nil_append, List.length_cons, List.length_nil, true_and, and_true, Nat.reduceAdd, aW_F, aW_A, aW_P, aW_w, abs_eq, O_asti_eq, v170, cl_eq, ST_id, MT_gs, ST_gs, PT_gs, ZT_gs, NT_gs, ET_gs, se_X7_setting, se_X7_ready, se_X7_start, se_X7_beginAnew, se_X7_longest, se_X7_stop, sea_X7_event, ev_t, v19_eq, v8_eq, ho, c, d, hP, hE, hru])
        ((repeat' (with_reducible first | apply And.intro | intro _)) <;> first | (with_reducible assumption) | (with_reducible exact Nat.zero_le _) | exact absurd trivial ‹¬True› | (simp_all [ST_id, MT_gs, ST_gs, PT_gs, ZT_gs, NT_gs, ET_gs]; done) | assumption | simp_all)
  by_cases c1 : S.toStart < S.settings 5
  · have h40 := h40 (fun z => z.2 c1)
    clear h79 k1 k2 k3 k4 f1 f2 hi hr
    (refine nx_ok C (cuts := cut_X7_cascade) 1000 _ _ _ _ ?_; simp only [w_X7_cascade, ops_eq, xst_eq, call_eq, oK_eq, Option.toList_some, Option.toList_none, List.cons_append, List.nil_append, List.length_cons, List.length_nil, true_and, and_true, Nat.reduceAdd, aW_F, aW_A, aW_P, aW_w, abs_eq, O_asti_eq, v170, cl_eq, ST_id, MT_gs, ST_gs, PT_gs, ZT_gs, NT_gs, ET_gs, se_X7_setting, se_X7_ready, se_X7_start, se_X7_beginAnew, se_X7_longest, se_X7_stop, sea_X7_event, v19_eq, c1])
    ((repeat' (with_reducible first | apply And.intro | intro _)) <;> first | (with_reducible assumption) | (with_reducible exact Nat.zero_le _) | exact absurd trivial ‹¬True› | (simp_all [ST_id, MT_gs, ST_gs, PT_gs, ZT_gs, NT_gs, ET_gs]; done) | assumption | simp_all)
  · by_cases c2 : oI (S.P.inOrd 0) = -1
    · have h40 := h40 (fun z => z.1 c2)
      clear h79 k1 k2 k3 k4 f1 f2 hi hr
      (refine nx_ok C (cuts := cut_X7_cascade) 1000 _ _ _ _ ?_; simp only [w_X7_cascade, ops_eq, xst_eq, call_eq, oK_eq, Option.toList_some, Option.toList_none, List.cons_append, List.nil_append, List.length_cons, List.length_nil, true_and, and_true, Nat.reduceAdd, aW_F, aW_A, aW_P, aW_w, abs_eq, O_asti_eq, v170, cl_eq, ST_id, MT_gs, ST_gs, PT_gs, ZT_gs, NT_gs, ET_gs, se_X7_setting, se_X7_ready, se_X7_start, se_X7_beginAnew, se_X7_longest, se_X7_stop, sea_X7_event, v19_eq, hP, c1, c2])
      ((repeat' (with_reducible first | apply And.intro | intro _)) <;> first | (with_reducible assumption) | (with_reducible exact Nat.zero_le _) | exact absurd trivial ‹¬True› | (simp_all [ST_id, MT_gs, ST_gs, PT_gs, ZT_gs, NT_gs, ET_gs]; done) | assumption | simp_all)
    · rw [k1 ⟨c2, c1⟩] at hr
      obtain ⟨i, e⟩ := oI_some c2
      obtain ⟨hin, hrd⟩ := PT.inOrd_ok e
      have hi1 := ST.inv_le hi (m := 1) (by omega)
      have hh : S.P.has (oI (S.P.inOrd 0)) = true := by rw [e]; exact PT.n_has ho hin
      have hy : S.P.rdy (oI (S.P.inOrd 0)).toNatClampNeg = true := by
        rw [e]
        show S.P.rdy (nI i).toNatClampNeg = true
        rw [(ixs ho hin).2.1]
        exact hrd
      clear h79 h40 k1 k2 k3 k4 f1 f2 hi e hrd hin
      (refine nx_ok C (cuts := cut_X7_cascade) 1000 _ _ _ _ ?_; simp only [w_X7_cascade, ops_eq, xst_eq, call_eq, oK_eq, Option.toList_some, Option.toList_none, List.cons_append, List.nil_append, List.length_cons, List.length_nil, true_and, and_true, Nat.reduceAdd, aW_F, aW_A, aW_P, aW_w, abs_eq, O_asti_eq, v170, cl_eq, ST_id, MT_gs, ST_gs, PT_gs, ZT_gs, NT_gs, ET_gs, se_X7_setting, se_X7_ready, se_X7_start, se_X7_beginAnew, se_X7_longest, se_X7_stop, sea_X7_event, v19_eq, hP, hi1, c1, c2, hh, hy])
      ((repeat' (with_reducible first | apply And.intro | intro _)) <;> first | (with_reducible assumption) | (with_reducible exact Nat.zero_le _) | exact absurd trivial ‹¬True› | (simp_all [ST_id, MT_gs, ST_gs, PT_gs, ZT_gs, NT_gs, ET_gs]; done) | assumption | simp_all)
def spc_X7_cascade (S : ST) (M : MT) (fl : Bool)  (K : Option Value → QT → Prop) : Prop := (fl = true ∧ S.inv 2 ∧ (¬ S.toStop < S.settings 6 → 0 < S.P.running) ∧ (¬ S.toSleep < S.settings 8 → ¬ S.P.vrb = -1)) ∧ K (none) ((S.cascade, M, fl))
def sp_X7_cascade : Sp QT := fun av q K => match av with
  | [.ref 0] => spc_X7_cascade q.1 q.2.1 q.2.2  K
  | _ => False
theorem se_X7_cascade (S : ST) (M : MT) (fl : Bool)  (K : Option Value → QT → Prop) : sp_X7_cascade [.ref 0] (S, M, fl) K = ((fl = true ∧ S.inv 2 ∧ (¬ S.toStop < S.settings 6 → 0 < S.P.running) ∧ (¬ S.toSleep < S.settings 8 → ¬ S.P.vrb = -1)) ∧ K (none) ((S.cascade, M, fl))) := rfl
theorem spok_X7_cascade : SpOk yX7_cascade cX7_cascade 1 none 5 aW sp_X7_cascade := by
  intro av q K h
  unfold sp_X7_cascade at h
  split at h
  · refine ⟨_, _, ?_, con_X7_cascade q.1 q.2.1 q.2.2  h.1, h.2⟩; trivial
  · exact h.elim
def PT.rotF (S : PT) (w p : Nat) (b : Int32) : Int32 := if S.rdy p = true ∧ ¬ S.kinds p = 0 ∧ S.minutes p < S.minutes w ∧ (b = -1 ∨ S.minutes p < S.minutes b.toNatClampNeg) then nI p else b
theorem PT.rot_eq {S : PT} (ho : S.ok) (h : S.has S.vrb = true) : S.nextRot = it (S.rotF S.vrb.toNatClampNeg) (-1) S.n := by
  have hn := ho.2
  have key : ∀ m, m ≤ S.n → (it (fun p (q : Int32 × Int32) => if S.rdy p = true ∧ ¬ S.kinds p = 0 ∧ S.minutes p < q.2 then (nI p, S.minutes p) else q) (-1, S.minutes S.vrb.toNatClampNeg) m) = (it (S.rotF S.vrb.toNatClampNeg) (-1) m, if it (S.rotF S.vrb.toNatClampNeg) (-1) m = -1 then S.minutes S.vrb.toNatClampNeg else S.minutes (it (S.rotF S.vrb.toNatClampNeg) (-1) m).toNatClampNeg) ∧ (¬ it (S.rotF S.vrb.toNatClampNeg) (-1) m = -1 → S.minutes (it (S.rotF S.vrb.toNatClampNeg) (-1) m).toNatClampNeg < S.minutes S.vrb.toNatClampNeg) := by
    intro m
    induction m with
    | zero => exact fun _ => ⟨rfl, fun z => absurd rfl z⟩
    | succ m ih =>
      intro hm
      obtain ⟨e, g⟩ := ih (by omega)
      rw [it, it, e]
      generalize it (S.rotF S.vrb.toNatClampNeg) (-1) m = b at g ⊢
      have hx := ixs ho (i := m) (by omega)
      unfold PT.rotF
      by_cases c : b = -1
      · simp only [c, if_true, true_or, and_true]
        by_cases d : S.rdy m = true ∧ ¬ S.kinds m = 0 ∧ S.minutes m < S.minutes S.vrb.toNatClampNeg
        · rw [if_pos d, if_pos d, if_neg hx.2.2.2.2.2, hx.2.1]
          exact ⟨rfl, fun _ => d.2.2⟩
        · rw [if_neg d, if_neg d, if_pos rfl]
          exact ⟨rfl, fun z => absurd rfl z⟩
      · simp only [c, if_false, false_or]
        have g := g c
        by_cases d : S.rdy m = true ∧ ¬ S.kinds m = 0 ∧ S.minutes m < S.minutes b.toNatClampNeg
        · have d2 : S.rdy m = true ∧ ¬ S.kinds m = 0 ∧ S.minutes m < S.minutes S.vrb.toNatClampNeg ∧ S.minutes m < S.minutes b.toNatClampNeg := ⟨d.1, d.2.1, Int32.lt_trans d.2.2 g, d.2.2⟩
          rw [if_pos d, if_pos d2, if_neg hx.2.2.2.2.2, hx.2.1]
          exact ⟨rfl, fun _ => d2.2.2.1⟩
        · have d2 : ¬ (S.rdy m = true ∧ ¬ S.kinds m = 0 ∧ S.minutes m < S.minutes S.vrb.toNatClampNeg ∧ S.minutes m < S.minutes b.toNatClampNeg) := fun z => d ⟨z.1, z.2.1, z.2.2.2⟩
          rw [if_neg d, if_neg d2, if_neg c]
          exact ⟨rfl, fun _ => g⟩
  unfold PT.nextRot
  rw [if_neg (by rw [h]; decide), (key S.n (Nat.le_refl _)).1]
theorem PT.bgn_inv {S : PT} (h : S.inv) {b : Int32} (hb : S.has b = true) (hy : S.rdy b.toNatClampNeg = true) (hk : ¬ S.kinds b.toNatClampNeg = 0) {v : Int32} (hv : rng v 1 1000) : (S.bgn b v 1).inv := by
  obtain ⟨i, hi, e1, e2⟩ := PT.has_n h.1 hb
  rw [e2] at hy hk
  have hs : upd S.since i 0 = S.since := by
    have := (h.2.1 i hi).2.2.2.2 (by simp only [PT.rdy, decide_eq_true_eq] at hy; exact hy.2)
    conv => lhs; rw [← this]
    exact upd_id _ _
  unfold PT.bgn
  rw [if_neg (by decide), e2, hs]
  refine PT.mk_inv (g := upd S.speeds i v) (f := upd S.starts i (S.starts i + 1)) h (fun j hj => upd_off _ _ (by omega)) (fun j => ?_) (x := b) (Or.inr ⟨i, hi, e1, by rw [upd_at]; exact rng_lt hv (by decide), hk⟩)
  rw [upd_ite]
  split
  · rename_i q
    exact Or.inr ⟨by omega, hv⟩
  · exact Or.inl rfl
theorem rot_stop {S : ST} {w b v : Int32} (hw : S.P.has w = true) (hne : ¬ w.toNatClampNeg = b.toNatClampNeg) (hwb : ¬ w = b) (hrun : S.P.run w.toNatClampNeg = true) : ((((S.sP (S.P.bgn b v 1)).event 0 b).event 7 b).stop w) = ((((S.sP ((S.P.sSpeeds (upd S.P.speeds w.toNatClampNeg 1000)).bgn b v 1)).event 0 b).event 7 b).stop w) ∧ (S.P.bgn b v 1).runs w = true := by
  have e1 : (S.P.bgn b v 1).runs w = true := by
    unfold PT.runs PT.bgn
    rw [if_neg (by decide)]
    show (S.P.has w && decide (0 < upd S.P.speeds b.toNatClampNeg v w.toNatClampNeg)) = true
    rw [hw, upd_off _ _ hne]
    exact hrun
  have e2 : ((S.P.sSpeeds (upd S.P.speeds w.toNatClampNeg 1000)).bgn b v 1).runs w = true := by
    unfold PT.runs PT.bgn
    rw [if_neg (by decide)]
    show (S.P.has w && decide (0 < upd (upd S.P.speeds w.toNatClampNeg 1000) b.toNatClampNeg v w.toNatClampNeg)) = true
    rw [hw, upd_off _ _ hne, upd_at]
    rfl
  have e3 : ((S.P.sSpeeds (upd S.P.speeds w.toNatClampNeg 1000)).bgn b v 1).stop w = (S.P.bgn b v 1).stop w := by
    have g1 := (PT.runs_has e1).1
    have g2 := (PT.runs_has e2).1
    unfold PT.stop
    rw [if_neg (show ¬ ((S.P.sSpeeds (upd S.P.speeds w.toNatClampNeg 1000)).bgn b v 1).has w = false by rw [g2]; decide), if_neg (show ¬ (S.P.bgn b v 1).has w = false by rw [g1]; decide)]
    have v1 : (S.P.bgn b v 1).vrb = b := by unfold PT.bgn; rw [if_neg (by decide)]; rfl
    have v2 : ((S.P.sSpeeds (upd S.P.speeds w.toNatClampNeg 1000)).bgn b v 1).vrb = b := by unfold PT.bgn; rw [if_neg (by decide)]; rfl
    rw [v1, v2]
    dsimp only
    rw [if_neg hwb, if_neg hwb]
    have hu : upd (upd (upd S.P.speeds w.toNatClampNeg 1000) b.toNatClampNeg v) w.toNatClampNeg 0 = upd (upd S.P.speeds b.toNatClampNeg v) w.toNatClampNeg 0 := by
      funext j
      simp only [upd_ite]
      (repeat' split) <;> rfl
    unfold PT.bgn
    rw [if_neg (by decide), if_neg (by decide)]
    show ((((((S.P.sSpeeds (upd (upd S.P.speeds w.toNatClampNeg 1000) b.toNatClampNeg v)).sSince _).sStarts _).sVrb b).sSpeeds (upd (upd (upd S.P.speeds w.toNatClampNeg 1000) b.toNatClampNeg v) w.toNatClampNeg 0)).sSince _) = _
    rw [hu]
    rfl
  refine ⟨?_, e1⟩
  have s1 : ∀ P1 : PT, P1.runs w = true → ((((S.sP P1).event 0 b).event 7 b).stop w) = ((((S.sP S.P).event 0 b).event 7 b).sP (P1.stop w)).event 1 w := fun P1 h1 => if_pos h1
  rw [s1 _ e1, s1 _ e2, e3]
def cod_X7_rotate : List (Nat × Op QT) := [(0, O_aload 0 1), (1, O_getf aW 7 0), (4, O_int 4 1), (5, O_ald aW 0), (6, O_istore 1 1), (7, O_aload 0 1), (8, O_int 18 2), (10, O_callV 1 0 (fun S => S) (fun _ S' => S') sp_X7_setting), (13, O_if_eq 37), (16, O_iload 1 1), (17, O_int (-1) 1), (18, O_icmp_eq 37), (21, O_aload 0 1), (22, O_iload 1 1), (23, O_int 6 2), (25, O_callV 2 0 (fun S => S) (fun _ S' => S') sp_X7_of), (28, O_aload 0 1), (29, O_int 18 2), (31, O_callV 1 0 (fun S => S) (fun _ S' => S') sp_X7_setting), (34, O_icmp_ge 38), (37, O_vret), (38, O_int (-1) 1), (39, O_istore 2 1), (40, O_int 0 1), (41, O_istore 3 1), (42, O_iload 3 1), (43, O_aload 0 1), (44, O_getf aW 7 0), (47, O_int 14 2), (49, O_ald aW 0), (50, O_icmp_ge 129), (53, O_aload 0 1), (54, O_iload 3 1), (55, O_callV 1 0 (fun S => S) (fun _ S' => S') sp_X7_isReady), (58, O_if_eq 89), (61, O_aload 0 1), (62, O_iload 3 1), (63, O_int 0 1), (64, O_callV 2 0 (fun S => S) (fun _ S' => S') sp_X7_of), (67, O_if_eq 89), (70, O_aload 0 1), (71, O_iload 3 1), (72, O_int 5 1), (73, O_callV 2 0 (fun S => S) (fun _ S' => S') sp_X7_of), (76, O_aload 0 1), (77, O_iload 1 1), (78, O_int 5 1), (79, O_callV 2 0 (fun S => S) (fun _ S' => S') sp_X7_of), (82, O_icmp_ge 89), (85, O_int 1 1), (86, O_goto 90), (89, O_int 0 1), (90, O_istore 4 2), (92, O_iload 4 2), (94, O_if_eq 121), (97, O_iload 2 1), (98, O_int (-1) 1), (99, O_icmp_eq 117), (102, O_aload 0 1), (103, O_iload 3 1), (104, O_int 5 1), (105, O_callV 2 0 (fun S => S) (fun _ S' => S') sp_X7_of), (108, O_aload 0 1), (109, O_iload 2 1), (110, O_int 5 1), (111, O_callV 2 0 (fun S => S) (fun _ S' => S') sp_X7_of), (114, O_icmp_ge 121), (117, O_iload 3 1), (118, O_goto 122), (121, O_iload 2 1), (122, O_istore 2 1), (123, O_iinc 3 1), (126, O_goto 42), (129, O_iload 2 1), (130, O_int (-1) 1), (131, O_icmp_eq 158), (134, O_aload 0 1), (135, O_iload 2 1), (136, O_aload 0 1), (137, O_iload 1 1), (138, O_int 4 1), (139, O_callV 2 0 (fun S => S) (fun _ S' => S') sp_X7_of), (142, O_int 1 1), (143, O_callV 3 0 (fun S => S) (fun _ S' => S') sp_X7_begins), (146, O_aload 0 1), (147, O_int 7 2), (149, O_iload 2 1), (150, O_callV 2 0 (fun S => S) (fun _ S' => S') spa_X7_event), (153, O_aload 0 1), (154, O_iload 1 1), (155, O_callV 1 0 (fun S => S) (fun _ S' => S') sp_X7_stop), (158, O_vret)]
abbrev cut_X7_rotate : List Nat := [42, 129]
set_option maxRecDepth 100000 in
theorem okc_X7_rotate {E : En} (F : Fx E RX7 cX7_rotate 5 4) (G : Fr E none) : CodOk E aW cod_X7_rotate := by
  unfold CodOk cod_X7_rotate
  refine List.forall_mem_cons.mpr ⟨ok_aload_n F dX7_rotate_0 rfl (by decide), ?_⟩
  refine List.forall_mem_cons.mpr ⟨ok_getf F flX7_7 dX7_rotate_1 (by decide), ?_⟩
  refine List.forall_mem_cons.mpr ⟨ok_iconst F dX7_rotate_4 (by decide) (by decide), ?_⟩
  refine List.forall_mem_cons.mpr ⟨ok_iald F dX7_rotate_5 (by decide), ?_⟩
  refine List.forall_mem_cons.mpr ⟨ok_istore_n F dX7_rotate_6 rfl (by decide) (by decide), ?_⟩
  refine List.forall_mem_cons.mpr ⟨ok_aload_n F dX7_rotate_7 rfl (by decide), ?_⟩
  refine List.forall_mem_cons.mpr ⟨ok_bipush F dX7_rotate_8 (by decide) (by decide), ?_⟩
  refine List.forall_mem_cons.mpr ⟨ok_callV F spok_X7_setting (ln_id aW) rcv_aW (by decide +kernel) (by decide) dX7_rotate_10 (by decide), ?_⟩
  refine List.forall_mem_cons.mpr ⟨ok_if_eq F dX7_rotate_13 (by decide) (by decide) (by decide), ?_⟩
  refine List.forall_mem_cons.mpr ⟨ok_iload_n F dX7_rotate_16 rfl (by decide), ?_⟩
  refine List.forall_mem_cons.mpr ⟨ok_iconst F dX7_rotate_17 (by decide) (by decide), ?_⟩
  refine List.forall_mem_cons.mpr ⟨ok_icmp_eq F dX7_rotate_18 (by decide) (by decide) (by decide), ?_⟩
  refine List.forall_mem_cons.mpr ⟨ok_aload_n F dX7_rotate_21 rfl (by decide), ?_⟩
  refine List.forall_mem_cons.mpr ⟨ok_iload_n F dX7_rotate_22 rfl (by decide), ?_⟩
  refine List.forall_mem_cons.mpr ⟨ok_bipush F dX7_rotate_23 (by decide) (by decide), ?_⟩
  refine List.forall_mem_cons.mpr ⟨ok_callV F spok_X7_of (ln_id aW) rcv_aW (by decide +kernel) (by decide) dX7_rotate_25 (by decide), ?_⟩
  refine List.forall_mem_cons.mpr ⟨ok_aload_n F dX7_rotate_28 rfl (by decide), ?_⟩
  refine List.forall_mem_cons.mpr ⟨ok_bipush F dX7_rotate_29 (by decide) (by decide), ?_⟩
  refine List.forall_mem_cons.mpr ⟨ok_callV F spok_X7_setting (ln_id aW) rcv_aW (by decide +kernel) (by decide) dX7_rotate_31 (by decide), ?_⟩
  refine List.forall_mem_cons.mpr ⟨ok_icmp_ge F dX7_rotate_34 (by decide) (by decide) (by decide), ?_⟩
  refine List.forall_mem_cons.mpr ⟨ok_vret F G dX7_rotate_37 (by decide), ?_⟩
  refine List.forall_mem_cons.mpr ⟨ok_iconst F dX7_rotate_38 (by decide) (by decide), ?_⟩
  refine List.forall_mem_cons.mpr ⟨ok_istore_n F dX7_rotate_39 rfl (by decide) (by decide), ?_⟩
  refine List.forall_mem_cons.mpr ⟨ok_iconst F dX7_rotate_40 (by decide) (by decide), ?_⟩
  refine List.forall_mem_cons.mpr ⟨ok_istore_n F dX7_rotate_41 rfl (by decide) (by decide), ?_⟩
  refine List.forall_mem_cons.mpr ⟨ok_iload_n F dX7_rotate_42 rfl (by decide), ?_⟩
  refine List.forall_mem_cons.mpr ⟨ok_aload_n F dX7_rotate_43 rfl (by decide), ?_⟩
  refine List.forall_mem_cons.mpr ⟨ok_getf F flX7_7 dX7_rotate_44 (by decide), ?_⟩
  refine List.forall_mem_cons.mpr ⟨ok_bipush F dX7_rotate_47 (by decide) (by decide), ?_⟩
  refine List.forall_mem_cons.mpr ⟨ok_iald F dX7_rotate_49 (by decide), ?_⟩
  refine List.forall_mem_cons.mpr ⟨ok_icmp_ge F dX7_rotate_50 (by decide) (by decide) (by decide), ?_⟩
  refine List.forall_mem_cons.mpr ⟨ok_aload_n F dX7_rotate_53 rfl (by decide), ?_⟩
  refine List.forall_mem_cons.mpr ⟨ok_iload_n F dX7_rotate_54 rfl (by decide), ?_⟩
  refine List.forall_mem_cons.mpr ⟨ok_callV F spok_X7_isReady (ln_id aW) rcv_aW (by decide +kernel) (by decide) dX7_rotate_55 (by decide), ?_⟩
  refine List.forall_mem_cons.mpr ⟨ok_if_eq F dX7_rotate_58 (by decide) (by decide) (by decide), ?_⟩
  refine List.forall_mem_cons.mpr ⟨ok_aload_n F dX7_rotate_61 rfl (by decide), ?_⟩
  refine List.forall_mem_cons.mpr ⟨ok_iload_n F dX7_rotate_62 rfl (by decide), ?_⟩
  refine List.forall_mem_cons.mpr ⟨ok_iconst F dX7_rotate_63 (by decide) (by decide), ?_⟩
  refine List.forall_mem_cons.mpr ⟨ok_callV F spok_X7_of (ln_id aW) rcv_aW (by decide +kernel) (by decide) dX7_rotate_64 (by decide), ?_⟩
  refine List.forall_mem_cons.mpr ⟨ok_if_eq F dX7_rotate_67 (by decide) (by decide) (by decide), ?_⟩
  refine List.forall_mem_cons.mpr ⟨ok_aload_n F dX7_rotate_70 rfl (by decide), ?_⟩
  refine List.forall_mem_cons.mpr ⟨ok_iload_n F dX7_rotate_71 rfl (by decide), ?_⟩
  refine List.forall_mem_cons.mpr ⟨ok_iconst F dX7_rotate_72 (by decide) (by decide), ?_⟩
  refine List.forall_mem_cons.mpr ⟨ok_callV F spok_X7_of (ln_id aW) rcv_aW (by decide +kernel) (by decide) dX7_rotate_73 (by decide), ?_⟩
  refine List.forall_mem_cons.mpr ⟨ok_aload_n F dX7_rotate_76 rfl (by decide), ?_⟩
  refine List.forall_mem_cons.mpr ⟨ok_iload_n F dX7_rotate_77 rfl (by decide), ?_⟩
  refine List.forall_mem_cons.mpr ⟨ok_iconst F dX7_rotate_78 (by decide) (by decide), ?_⟩
  refine List.forall_mem_cons.mpr ⟨ok_callV F spok_X7_of (ln_id aW) rcv_aW (by decide +kernel) (by decide) dX7_rotate_79 (by decide), ?_⟩
  refine List.forall_mem_cons.mpr ⟨ok_icmp_ge F dX7_rotate_82 (by decide) (by decide) (by decide), ?_⟩
  refine List.forall_mem_cons.mpr ⟨ok_iconst F dX7_rotate_85 (by decide) (by decide), ?_⟩
  refine List.forall_mem_cons.mpr ⟨ok_goto F dX7_rotate_86 (by decide) (by decide) (by decide), ?_⟩
  refine List.forall_mem_cons.mpr ⟨ok_iconst F dX7_rotate_89 (by decide) (by decide), ?_⟩
  refine List.forall_mem_cons.mpr ⟨ok_istore F dX7_rotate_90 (by decide) (by decide), ?_⟩
  refine List.forall_mem_cons.mpr ⟨ok_iload F dX7_rotate_92 (by decide), ?_⟩
  refine List.forall_mem_cons.mpr ⟨ok_if_eq F dX7_rotate_94 (by decide) (by decide) (by decide), ?_⟩
  refine List.forall_mem_cons.mpr ⟨ok_iload_n F dX7_rotate_97 rfl (by decide), ?_⟩
  refine List.forall_mem_cons.mpr ⟨ok_iconst F dX7_rotate_98 (by decide) (by decide), ?_⟩
  refine List.forall_mem_cons.mpr ⟨ok_icmp_eq F dX7_rotate_99 (by decide) (by decide) (by decide), ?_⟩
  refine List.forall_mem_cons.mpr ⟨ok_aload_n F dX7_rotate_102 rfl (by decide), ?_⟩
  refine List.forall_mem_cons.mpr ⟨ok_iload_n F dX7_rotate_103 rfl (by decide), ?_⟩
  refine List.forall_mem_cons.mpr ⟨ok_iconst F dX7_rotate_104 (by decide) (by decide), ?_⟩
  refine List.forall_mem_cons.mpr ⟨ok_callV F spok_X7_of (ln_id aW) rcv_aW (by decide +kernel) (by decide) dX7_rotate_105 (by decide), ?_⟩
  refine List.forall_mem_cons.mpr ⟨ok_aload_n F dX7_rotate_108 rfl (by decide), ?_⟩
  refine List.forall_mem_cons.mpr ⟨ok_iload_n F dX7_rotate_109 rfl (by decide), ?_⟩
  refine List.forall_mem_cons.mpr ⟨ok_iconst F dX7_rotate_110 (by decide) (by decide), ?_⟩
  refine List.forall_mem_cons.mpr ⟨ok_callV F spok_X7_of (ln_id aW) rcv_aW (by decide +kernel) (by decide) dX7_rotate_111 (by decide), ?_⟩
  refine List.forall_mem_cons.mpr ⟨ok_icmp_ge F dX7_rotate_114 (by decide) (by decide) (by decide), ?_⟩
  refine List.forall_mem_cons.mpr ⟨ok_iload_n F dX7_rotate_117 rfl (by decide), ?_⟩
  refine List.forall_mem_cons.mpr ⟨ok_goto F dX7_rotate_118 (by decide) (by decide) (by decide), ?_⟩
  refine List.forall_mem_cons.mpr ⟨ok_iload_n F dX7_rotate_121 rfl (by decide), ?_⟩
  refine List.forall_mem_cons.mpr ⟨ok_istore_n F dX7_rotate_122 rfl (by decide) (by decide), ?_⟩
  refine List.forall_mem_cons.mpr ⟨ok_iinc F dX7_rotate_123 (by decide) (by decide) (by decide), ?_⟩
  refine List.forall_mem_cons.mpr ⟨ok_goto F dX7_rotate_126 (by decide) (by decide) (by decide), ?_⟩
  refine List.forall_mem_cons.mpr ⟨ok_iload_n F dX7_rotate_129 rfl (by decide), ?_⟩
  refine List.forall_mem_cons.mpr ⟨ok_iconst F dX7_rotate_130 (by decide) (by decide), ?_⟩
  refine List.forall_mem_cons.mpr ⟨ok_icmp_eq F dX7_rotate_131 (by decide) (by decide) (by decide), ?_⟩
  refine List.forall_mem_cons.mpr ⟨ok_aload_n F dX7_rotate_134 rfl (by decide), ?_⟩
  refine List.forall_mem_cons.mpr ⟨ok_iload_n F dX7_rotate_135 rfl (by decide), ?_⟩
  refine List.forall_mem_cons.mpr ⟨ok_aload_n F dX7_rotate_136 rfl (by decide), ?_⟩
  refine List.forall_mem_cons.mpr ⟨ok_iload_n F dX7_rotate_137 rfl (by decide), ?_⟩
  refine List.forall_mem_cons.mpr ⟨ok_iconst F dX7_rotate_138 (by decide) (by decide), ?_⟩
  refine List.forall_mem_cons.mpr ⟨ok_callV F spok_X7_of (ln_id aW) rcv_aW (by decide +kernel) (by decide) dX7_rotate_139 (by decide), ?_⟩
  refine List.forall_mem_cons.mpr ⟨ok_iconst F dX7_rotate_142 (by decide) (by decide), ?_⟩
  refine List.forall_mem_cons.mpr ⟨ok_callV F spok_X7_begins (ln_id aW) rcv_aW (by decide +kernel) (by decide) dX7_rotate_143 (by decide), ?_⟩
  refine List.forall_mem_cons.mpr ⟨ok_aload_n F dX7_rotate_146 rfl (by decide), ?_⟩
  refine List.forall_mem_cons.mpr ⟨ok_bipush F dX7_rotate_147 (by decide) (by decide), ?_⟩
  refine List.forall_mem_cons.mpr ⟨ok_iload_n F dX7_rotate_149 rfl (by decide), ?_⟩
  refine List.forall_mem_cons.mpr ⟨ok_callV F spoka_X7_event (ln_id aW) rcv_aW (by decide +kernel) (by decide) dX7_rotate_150 (by decide), ?_⟩
  refine List.forall_mem_cons.mpr ⟨ok_aload_n F dX7_rotate_153 rfl (by decide), ?_⟩
  refine List.forall_mem_cons.mpr ⟨ok_iload_n F dX7_rotate_154 rfl (by decide), ?_⟩
  refine List.forall_mem_cons.mpr ⟨ok_callV F spok_X7_stop (ln_id aW) rcv_aW (by decide +kernel) (by decide) dX7_rotate_155 (by decide), ?_⟩
  refine List.forall_mem_cons.mpr ⟨ok_vret F G dX7_rotate_158 (by decide), ?_⟩
  exact fun _ h => absurd h List.not_mem_nil
set_option maxRecDepth 100000 in
theorem w_X7_rotate : (∀ (K : Kt QT) (n : Nat) (L : xL) (st : List Value) (S : QT), nx cod_X7_rotate cut_X7_rotate K (n + 1) 0 L st S = (O_aload 0 1) (nx cod_X7_rotate cut_X7_rotate K n) 0 L st S) ∧
  (∀ (K : Kt QT) (n : Nat) (L : xL) (st : List Value) (S : QT), nx cod_X7_rotate cut_X7_rotate K (n + 1) 1 L st S = (O_getf aW 7 0) (nx cod_X7_rotate cut_X7_rotate K n) 1 L st S) ∧
  (∀ (K : Kt QT) (n : Nat) (L : xL) (st : List Value) (S : QT), nx cod_X7_rotate cut_X7_rotate K (n + 1) 4 L st S = (O_int 4 1) (nx cod_X7_rotate cut_X7_rotate K n) 4 L st S) ∧
  (∀ (K : Kt QT) (n : Nat) (L : xL) (st : List Value) (S : QT), nx cod_X7_rotate cut_X7_rotate K (n + 1) 5 L st S = (O_ald aW 0) (nx cod_X7_rotate cut_X7_rotate K n) 5 L st S) ∧
  (∀ (K : Kt QT) (n : Nat) (L : xL) (st : List Value) (S : QT), nx cod_X7_rotate cut_X7_rotate K (n + 1) 6 L st S = (O_istore 1 1) (nx cod_X7_rotate cut_X7_rotate K n) 6 L st S) ∧
  (∀ (K : Kt QT) (n : Nat) (L : xL) (st : List Value) (S : QT), nx cod_X7_rotate cut_X7_rotate K (n + 1) 7 L st S = (O_aload 0 1) (nx cod_X7_rotate cut_X7_rotate K n) 7 L st S) ∧
  (∀ (K : Kt QT) (n : Nat) (L : xL) (st : List Value) (S : QT), nx cod_X7_rotate cut_X7_rotate K (n + 1) 8 L st S = (O_int 18 2) (nx cod_X7_rotate cut_X7_rotate K n) 8 L st S) ∧
  (∀ (K : Kt QT) (n : Nat) (L : xL) (st : List Value) (S : QT), nx cod_X7_rotate cut_X7_rotate K (n + 1) 10 L st S = (O_callV 1 0 (fun S => S) (fun _ S' => S') sp_X7_setting) (nx cod_X7_rotate cut_X7_rotate K n) 10 L st S) ∧
  (∀ (K : Kt QT) (n : Nat) (L : xL) (st : List Value) (S : QT), nx cod_X7_rotate cut_X7_rotate K (n + 1) 13 L st S = (O_if_eq 37) (nx cod_X7_rotate cut_X7_rotate K n) 13 L st S) ∧
  (∀ (K : Kt QT) (n : Nat) (L : xL) (st : List Value) (S : QT), nx cod_X7_rotate cut_X7_rotate K (n + 1) 16 L st S = (O_iload 1 1) (nx cod_X7_rotate cut_X7_rotate K n) 16 L st S) ∧
  (∀ (K : Kt QT) (n : Nat) (L : xL) (st : List Value) (S : QT), nx cod_X7_rotate cut_X7_rotate K (n + 1) 17 L st S = (O_int (-1) 1) (nx cod_X7_rotate cut_X7_rotate K n) 17 L st S) ∧
  (∀ (K : Kt QT) (n : Nat) (L : xL) (st : List Value) (S : QT), nx cod_X7_rotate cut_X7_rotate K (n + 1) 18 L st S = (O_icmp_eq 37) (nx cod_X7_rotate cut_X7_rotate K n) 18 L st S) ∧
  (∀ (K : Kt QT) (n : Nat) (L : xL) (st : List Value) (S : QT), nx cod_X7_rotate cut_X7_rotate K (n + 1) 21 L st S = (O_aload 0 1) (nx cod_X7_rotate cut_X7_rotate K n) 21 L st S) ∧
  (∀ (K : Kt QT) (n : Nat) (L : xL) (st : List Value) (S : QT), nx cod_X7_rotate cut_X7_rotate K (n + 1) 22 L st S = (O_iload 1 1) (nx cod_X7_rotate cut_X7_rotate K n) 22 L st S) ∧
  (∀ (K : Kt QT) (n : Nat) (L : xL) (st : List Value) (S : QT), nx cod_X7_rotate cut_X7_rotate K (n + 1) 23 L st S = (O_int 6 2) (nx cod_X7_rotate cut_X7_rotate K n) 23 L st S) ∧
  (∀ (K : Kt QT) (n : Nat) (L : xL) (st : List Value) (S : QT), nx cod_X7_rotate cut_X7_rotate K (n + 1) 25 L st S = (O_callV 2 0 (fun S => S) (fun _ S' => S') sp_X7_of) (nx cod_X7_rotate cut_X7_rotate K n) 25 L st S) ∧
  (∀ (K : Kt QT) (n : Nat) (L : xL) (st : List Value) (S : QT), nx cod_X7_rotate cut_X7_rotate K (n + 1) 28 L st S = (O_aload 0 1) (nx cod_X7_rotate cut_X7_rotate K n) 28 L st S) ∧
  (∀ (K : Kt QT) (n : Nat) (L : xL) (st : List Value) (S : QT), nx cod_X7_rotate cut_X7_rotate K (n + 1) 29 L st S = (O_int 18 2) (nx cod_X7_rotate cut_X7_rotate K n) 29 L st S) ∧
  (∀ (K : Kt QT) (n : Nat) (L : xL) (st : List Value) (S : QT), nx cod_X7_rotate cut_X7_rotate K (n + 1) 31 L st S = (O_callV 1 0 (fun S => S) (fun _ S' => S') sp_X7_setting) (nx cod_X7_rotate cut_X7_rotate K n) 31 L st S) ∧
  (∀ (K : Kt QT) (n : Nat) (L : xL) (st : List Value) (S : QT), nx cod_X7_rotate cut_X7_rotate K (n + 1) 34 L st S = (O_icmp_ge 38) (nx cod_X7_rotate cut_X7_rotate K n) 34 L st S) ∧
  (∀ (K : Kt QT) (n : Nat) (L : xL) (st : List Value) (S : QT), nx cod_X7_rotate cut_X7_rotate K (n + 1) 37 L st S = (O_vret) (nx cod_X7_rotate cut_X7_rotate K n) 37 L st S) ∧
  (∀ (K : Kt QT) (n : Nat) (L : xL) (st : List Value) (S : QT), nx cod_X7_rotate cut_X7_rotate K (n + 1) 38 L st S = (O_int (-1) 1) (nx cod_X7_rotate cut_X7_rotate K n) 38 L st S) ∧
  (∀ (K : Kt QT) (n : Nat) (L : xL) (st : List Value) (S : QT), nx cod_X7_rotate cut_X7_rotate K (n + 1) 39 L st S = (O_istore 2 1) (nx cod_X7_rotate cut_X7_rotate K n) 39 L st S) ∧
  (∀ (K : Kt QT) (n : Nat) (L : xL) (st : List Value) (S : QT), nx cod_X7_rotate cut_X7_rotate K (n + 1) 40 L st S = (O_int 0 1) (nx cod_X7_rotate cut_X7_rotate K n) 40 L st S) ∧
  (∀ (K : Kt QT) (n : Nat) (L : xL) (st : List Value) (S : QT), nx cod_X7_rotate cut_X7_rotate K (n + 1) 41 L st S = (O_istore 3 1) (nx cod_X7_rotate cut_X7_rotate K n) 41 L st S) ∧
  (∀ (K : Kt QT) (n : Nat) (L : xL) (st : List Value) (S : QT), nx cod_X7_rotate cut_X7_rotate K (n + 1) 42 L st S = K 42 L st S) ∧
  (∀ (K : Kt QT) (n : Nat) (L : xL) (st : List Value) (S : QT), nx1 cod_X7_rotate cut_X7_rotate K n 42 L st S = (O_iload 3 1) (nx cod_X7_rotate cut_X7_rotate K n) 42 L st S) ∧
  (∀ (K : Kt QT) (n : Nat) (L : xL) (st : List Value) (S : QT), nx cod_X7_rotate cut_X7_rotate K (n + 1) 43 L st S = (O_aload 0 1) (nx cod_X7_rotate cut_X7_rotate K n) 43 L st S) ∧
  (∀ (K : Kt QT) (n : Nat) (L : xL) (st : List Value) (S : QT), nx cod_X7_rotate cut_X7_rotate K (n + 1) 44 L st S = (O_getf aW 7 0) (nx cod_X7_rotate cut_X7_rotate K n) 44 L st S) ∧
  (∀ (K : Kt QT) (n : Nat) (L : xL) (st : List Value) (S : QT), nx cod_X7_rotate cut_X7_rotate K (n + 1) 47 L st S = (O_int 14 2) (nx cod_X7_rotate cut_X7_rotate K n) 47 L st S) ∧
  (∀ (K : Kt QT) (n : Nat) (L : xL) (st : List Value) (S : QT), nx cod_X7_rotate cut_X7_rotate K (n + 1) 49 L st S = (O_ald aW 0) (nx cod_X7_rotate cut_X7_rotate K n) 49 L st S) ∧
  (∀ (K : Kt QT) (n : Nat) (L : xL) (st : List Value) (S : QT), nx cod_X7_rotate cut_X7_rotate K (n + 1) 50 L st S = (O_icmp_ge 129) (nx cod_X7_rotate cut_X7_rotate K n) 50 L st S) ∧
  (∀ (K : Kt QT) (n : Nat) (L : xL) (st : List Value) (S : QT), nx cod_X7_rotate cut_X7_rotate K (n + 1) 53 L st S = (O_aload 0 1) (nx cod_X7_rotate cut_X7_rotate K n) 53 L st S) ∧
  (∀ (K : Kt QT) (n : Nat) (L : xL) (st : List Value) (S : QT), nx cod_X7_rotate cut_X7_rotate K (n + 1) 54 L st S = (O_iload 3 1) (nx cod_X7_rotate cut_X7_rotate K n) 54 L st S) ∧
  (∀ (K : Kt QT) (n : Nat) (L : xL) (st : List Value) (S : QT), nx cod_X7_rotate cut_X7_rotate K (n + 1) 55 L st S = (O_callV 1 0 (fun S => S) (fun _ S' => S') sp_X7_isReady) (nx cod_X7_rotate cut_X7_rotate K n) 55 L st S) ∧
  (∀ (K : Kt QT) (n : Nat) (L : xL) (st : List Value) (S : QT), nx cod_X7_rotate cut_X7_rotate K (n + 1) 58 L st S = (O_if_eq 89) (nx cod_X7_rotate cut_X7_rotate K n) 58 L st S) ∧
  (∀ (K : Kt QT) (n : Nat) (L : xL) (st : List Value) (S : QT), nx cod_X7_rotate cut_X7_rotate K (n + 1) 61 L st S = (O_aload 0 1) (nx cod_X7_rotate cut_X7_rotate K n) 61 L st S) ∧
  (∀ (K : Kt QT) (n : Nat) (L : xL) (st : List Value) (S : QT), nx cod_X7_rotate cut_X7_rotate K (n + 1) 62 L st S = (O_iload 3 1) (nx cod_X7_rotate cut_X7_rotate K n) 62 L st S) ∧
  (∀ (K : Kt QT) (n : Nat) (L : xL) (st : List Value) (S : QT), nx cod_X7_rotate cut_X7_rotate K (n + 1) 63 L st S = (O_int 0 1) (nx cod_X7_rotate cut_X7_rotate K n) 63 L st S) ∧
  (∀ (K : Kt QT) (n : Nat) (L : xL) (st : List Value) (S : QT), nx cod_X7_rotate cut_X7_rotate K (n + 1) 64 L st S = (O_callV 2 0 (fun S => S) (fun _ S' => S') sp_X7_of) (nx cod_X7_rotate cut_X7_rotate K n) 64 L st S) ∧
  (∀ (K : Kt QT) (n : Nat) (L : xL) (st : List Value) (S : QT), nx cod_X7_rotate cut_X7_rotate K (n + 1) 67 L st S = (O_if_eq 89) (nx cod_X7_rotate cut_X7_rotate K n) 67 L st S) ∧
  (∀ (K : Kt QT) (n : Nat) (L : xL) (st : List Value) (S : QT), nx cod_X7_rotate cut_X7_rotate K (n + 1) 70 L st S = (O_aload 0 1) (nx cod_X7_rotate cut_X7_rotate K n) 70 L st S) ∧
  (∀ (K : Kt QT) (n : Nat) (L : xL) (st : List Value) (S : QT), nx cod_X7_rotate cut_X7_rotate K (n + 1) 71 L st S = (O_iload 3 1) (nx cod_X7_rotate cut_X7_rotate K n) 71 L st S) ∧
  (∀ (K : Kt QT) (n : Nat) (L : xL) (st : List Value) (S : QT), nx cod_X7_rotate cut_X7_rotate K (n + 1) 72 L st S = (O_int 5 1) (nx cod_X7_rotate cut_X7_rotate K n) 72 L st S) ∧
  (∀ (K : Kt QT) (n : Nat) (L : xL) (st : List Value) (S : QT), nx cod_X7_rotate cut_X7_rotate K (n + 1) 73 L st S = (O_callV 2 0 (fun S => S) (fun _ S' => S') sp_X7_of) (nx cod_X7_rotate cut_X7_rotate K n) 73 L st S) ∧
  (∀ (K : Kt QT) (n : Nat) (L : xL) (st : List Value) (S : QT), nx cod_X7_rotate cut_X7_rotate K (n + 1) 76 L st S = (O_aload 0 1) (nx cod_X7_rotate cut_X7_rotate K n) 76 L st S) ∧
  (∀ (K : Kt QT) (n : Nat) (L : xL) (st : List Value) (S : QT), nx cod_X7_rotate cut_X7_rotate K (n + 1) 77 L st S = (O_iload 1 1) (nx cod_X7_rotate cut_X7_rotate K n) 77 L st S) ∧
  (∀ (K : Kt QT) (n : Nat) (L : xL) (st : List Value) (S : QT), nx cod_X7_rotate cut_X7_rotate K (n + 1) 78 L st S = (O_int 5 1) (nx cod_X7_rotate cut_X7_rotate K n) 78 L st S) ∧
  (∀ (K : Kt QT) (n : Nat) (L : xL) (st : List Value) (S : QT), nx cod_X7_rotate cut_X7_rotate K (n + 1) 79 L st S = (O_callV 2 0 (fun S => S) (fun _ S' => S') sp_X7_of) (nx cod_X7_rotate cut_X7_rotate K n) 79 L st S) ∧
  (∀ (K : Kt QT) (n : Nat) (L : xL) (st : List Value) (S : QT), nx cod_X7_rotate cut_X7_rotate K (n + 1) 82 L st S = (O_icmp_ge 89) (nx cod_X7_rotate cut_X7_rotate K n) 82 L st S) ∧
  (∀ (K : Kt QT) (n : Nat) (L : xL) (st : List Value) (S : QT), nx cod_X7_rotate cut_X7_rotate K (n + 1) 85 L st S = (O_int 1 1) (nx cod_X7_rotate cut_X7_rotate K n) 85 L st S) ∧
  (∀ (K : Kt QT) (n : Nat) (L : xL) (st : List Value) (S : QT), nx cod_X7_rotate cut_X7_rotate K (n + 1) 86 L st S = (O_goto 90) (nx cod_X7_rotate cut_X7_rotate K n) 86 L st S) ∧
  (∀ (K : Kt QT) (n : Nat) (L : xL) (st : List Value) (S : QT), nx cod_X7_rotate cut_X7_rotate K (n + 1) 89 L st S = (O_int 0 1) (nx cod_X7_rotate cut_X7_rotate K n) 89 L st S) ∧
  (∀ (K : Kt QT) (n : Nat) (L : xL) (st : List Value) (S : QT), nx cod_X7_rotate cut_X7_rotate K (n + 1) 90 L st S = (O_istore 4 2) (nx cod_X7_rotate cut_X7_rotate K n) 90 L st S) ∧
  (∀ (K : Kt QT) (n : Nat) (L : xL) (st : List Value) (S : QT), nx cod_X7_rotate cut_X7_rotate K (n + 1) 92 L st S = (O_iload 4 2) (nx cod_X7_rotate cut_X7_rotate K n) 92 L st S) ∧
  (∀ (K : Kt QT) (n : Nat) (L : xL) (st : List Value) (S : QT), nx cod_X7_rotate cut_X7_rotate K (n + 1) 94 L st S = (O_if_eq 121) (nx cod_X7_rotate cut_X7_rotate K n) 94 L st S) ∧
  (∀ (K : Kt QT) (n : Nat) (L : xL) (st : List Value) (S : QT), nx cod_X7_rotate cut_X7_rotate K (n + 1) 97 L st S = (O_iload 2 1) (nx cod_X7_rotate cut_X7_rotate K n) 97 L st S) ∧
  (∀ (K : Kt QT) (n : Nat) (L : xL) (st : List Value) (S : QT), nx cod_X7_rotate cut_X7_rotate K (n + 1) 98 L st S = (O_int (-1) 1) (nx cod_X7_rotate cut_X7_rotate K n) 98 L st S) ∧
  (∀ (K : Kt QT) (n : Nat) (L : xL) (st : List Value) (S : QT), nx cod_X7_rotate cut_X7_rotate K (n + 1) 99 L st S = (O_icmp_eq 117) (nx cod_X7_rotate cut_X7_rotate K n) 99 L st S) ∧
  (∀ (K : Kt QT) (n : Nat) (L : xL) (st : List Value) (S : QT), nx cod_X7_rotate cut_X7_rotate K (n + 1) 102 L st S = (O_aload 0 1) (nx cod_X7_rotate cut_X7_rotate K n) 102 L st S) ∧
  (∀ (K : Kt QT) (n : Nat) (L : xL) (st : List Value) (S : QT), nx cod_X7_rotate cut_X7_rotate K (n + 1) 103 L st S = (O_iload 3 1) (nx cod_X7_rotate cut_X7_rotate K n) 103 L st S) ∧
  (∀ (K : Kt QT) (n : Nat) (L : xL) (st : List Value) (S : QT), nx cod_X7_rotate cut_X7_rotate K (n + 1) 104 L st S = (O_int 5 1) (nx cod_X7_rotate cut_X7_rotate K n) 104 L st S) ∧
  (∀ (K : Kt QT) (n : Nat) (L : xL) (st : List Value) (S : QT), nx cod_X7_rotate cut_X7_rotate K (n + 1) 105 L st S = (O_callV 2 0 (fun S => S) (fun _ S' => S') sp_X7_of) (nx cod_X7_rotate cut_X7_rotate K n) 105 L st S) ∧
  (∀ (K : Kt QT) (n : Nat) (L : xL) (st : List Value) (S : QT), nx cod_X7_rotate cut_X7_rotate K (n + 1) 108 L st S = (O_aload 0 1) (nx cod_X7_rotate cut_X7_rotate K n) 108 L st S) ∧
  (∀ (K : Kt QT) (n : Nat) (L : xL) (st : List Value) (S : QT), nx cod_X7_rotate cut_X7_rotate K (n + 1) 109 L st S = (O_iload 2 1) (nx cod_X7_rotate cut_X7_rotate K n) 109 L st S) ∧
  (∀ (K : Kt QT) (n : Nat) (L : xL) (st : List Value) (S : QT), nx cod_X7_rotate cut_X7_rotate K (n + 1) 110 L st S = (O_int 5 1) (nx cod_X7_rotate cut_X7_rotate K n) 110 L st S) ∧
  (∀ (K : Kt QT) (n : Nat) (L : xL) (st : List Value) (S : QT), nx cod_X7_rotate cut_X7_rotate K (n + 1) 111 L st S = (O_callV 2 0 (fun S => S) (fun _ S' => S') sp_X7_of) (nx cod_X7_rotate cut_X7_rotate K n) 111 L st S) ∧
  (∀ (K : Kt QT) (n : Nat) (L : xL) (st : List Value) (S : QT), nx cod_X7_rotate cut_X7_rotate K (n + 1) 114 L st S = (O_icmp_ge 121) (nx cod_X7_rotate cut_X7_rotate K n) 114 L st S) ∧
  (∀ (K : Kt QT) (n : Nat) (L : xL) (st : List Value) (S : QT), nx cod_X7_rotate cut_X7_rotate K (n + 1) 117 L st S = (O_iload 3 1) (nx cod_X7_rotate cut_X7_rotate K n) 117 L st S) ∧
  (∀ (K : Kt QT) (n : Nat) (L : xL) (st : List Value) (S : QT), nx cod_X7_rotate cut_X7_rotate K (n + 1) 118 L st S = (O_goto 122) (nx cod_X7_rotate cut_X7_rotate K n) 118 L st S) ∧
  (∀ (K : Kt QT) (n : Nat) (L : xL) (st : List Value) (S : QT), nx cod_X7_rotate cut_X7_rotate K (n + 1) 121 L st S = (O_iload 2 1) (nx cod_X7_rotate cut_X7_rotate K n) 121 L st S) ∧
  (∀ (K : Kt QT) (n : Nat) (L : xL) (st : List Value) (S : QT), nx cod_X7_rotate cut_X7_rotate K (n + 1) 122 L st S = (O_istore 2 1) (nx cod_X7_rotate cut_X7_rotate K n) 122 L st S) ∧
  (∀ (K : Kt QT) (n : Nat) (L : xL) (st : List Value) (S : QT), nx cod_X7_rotate cut_X7_rotate K (n + 1) 123 L st S = (O_iinc 3 1) (nx cod_X7_rotate cut_X7_rotate K n) 123 L st S) ∧
  (∀ (K : Kt QT) (n : Nat) (L : xL) (st : List Value) (S : QT), nx cod_X7_rotate cut_X7_rotate K (n + 1) 126 L st S = (O_goto 42) (nx cod_X7_rotate cut_X7_rotate K n) 126 L st S) ∧
  (∀ (K : Kt QT) (n : Nat) (L : xL) (st : List Value) (S : QT), nx cod_X7_rotate cut_X7_rotate K (n + 1) 129 L st S = K 129 L st S) ∧
  (∀ (K : Kt QT) (n : Nat) (L : xL) (st : List Value) (S : QT), nx1 cod_X7_rotate cut_X7_rotate K n 129 L st S = (O_iload 2 1) (nx cod_X7_rotate cut_X7_rotate K n) 129 L st S) ∧
  (∀ (K : Kt QT) (n : Nat) (L : xL) (st : List Value) (S : QT), nx cod_X7_rotate cut_X7_rotate K (n + 1) 130 L st S = (O_int (-1) 1) (nx cod_X7_rotate cut_X7_rotate K n) 130 L st S) ∧
  (∀ (K : Kt QT) (n : Nat) (L : xL) (st : List Value) (S : QT), nx cod_X7_rotate cut_X7_rotate K (n + 1) 131 L st S = (O_icmp_eq 158) (nx cod_X7_rotate cut_X7_rotate K n) 131 L st S) ∧
  (∀ (K : Kt QT) (n : Nat) (L : xL) (st : List Value) (S : QT), nx cod_X7_rotate cut_X7_rotate K (n + 1) 134 L st S = (O_aload 0 1) (nx cod_X7_rotate cut_X7_rotate K n) 134 L st S) ∧
  (∀ (K : Kt QT) (n : Nat) (L : xL) (st : List Value) (S : QT), nx cod_X7_rotate cut_X7_rotate K (n + 1) 135 L st S = (O_iload 2 1) (nx cod_X7_rotate cut_X7_rotate K n) 135 L st S) ∧
  (∀ (K : Kt QT) (n : Nat) (L : xL) (st : List Value) (S : QT), nx cod_X7_rotate cut_X7_rotate K (n + 1) 136 L st S = (O_aload 0 1) (nx cod_X7_rotate cut_X7_rotate K n) 136 L st S) ∧
  (∀ (K : Kt QT) (n : Nat) (L : xL) (st : List Value) (S : QT), nx cod_X7_rotate cut_X7_rotate K (n + 1) 137 L st S = (O_iload 1 1) (nx cod_X7_rotate cut_X7_rotate K n) 137 L st S) ∧
  (∀ (K : Kt QT) (n : Nat) (L : xL) (st : List Value) (S : QT), nx cod_X7_rotate cut_X7_rotate K (n + 1) 138 L st S = (O_int 4 1) (nx cod_X7_rotate cut_X7_rotate K n) 138 L st S) ∧
  (∀ (K : Kt QT) (n : Nat) (L : xL) (st : List Value) (S : QT), nx cod_X7_rotate cut_X7_rotate K (n + 1) 139 L st S = (O_callV 2 0 (fun S => S) (fun _ S' => S') sp_X7_of) (nx cod_X7_rotate cut_X7_rotate K n) 139 L st S) ∧
  (∀ (K : Kt QT) (n : Nat) (L : xL) (st : List Value) (S : QT), nx cod_X7_rotate cut_X7_rotate K (n + 1) 142 L st S = (O_int 1 1) (nx cod_X7_rotate cut_X7_rotate K n) 142 L st S) ∧
  (∀ (K : Kt QT) (n : Nat) (L : xL) (st : List Value) (S : QT), nx cod_X7_rotate cut_X7_rotate K (n + 1) 143 L st S = (O_callV 3 0 (fun S => S) (fun _ S' => S') sp_X7_begins) (nx cod_X7_rotate cut_X7_rotate K n) 143 L st S) ∧
  (∀ (K : Kt QT) (n : Nat) (L : xL) (st : List Value) (S : QT), nx cod_X7_rotate cut_X7_rotate K (n + 1) 146 L st S = (O_aload 0 1) (nx cod_X7_rotate cut_X7_rotate K n) 146 L st S) ∧
  (∀ (K : Kt QT) (n : Nat) (L : xL) (st : List Value) (S : QT), nx cod_X7_rotate cut_X7_rotate K (n + 1) 147 L st S = (O_int 7 2) (nx cod_X7_rotate cut_X7_rotate K n) 147 L st S) ∧
  (∀ (K : Kt QT) (n : Nat) (L : xL) (st : List Value) (S : QT), nx cod_X7_rotate cut_X7_rotate K (n + 1) 149 L st S = (O_iload 2 1) (nx cod_X7_rotate cut_X7_rotate K n) 149 L st S) ∧
  (∀ (K : Kt QT) (n : Nat) (L : xL) (st : List Value) (S : QT), nx cod_X7_rotate cut_X7_rotate K (n + 1) 150 L st S = (O_callV 2 0 (fun S => S) (fun _ S' => S') spa_X7_event) (nx cod_X7_rotate cut_X7_rotate K n) 150 L st S) ∧
  (∀ (K : Kt QT) (n : Nat) (L : xL) (st : List Value) (S : QT), nx cod_X7_rotate cut_X7_rotate K (n + 1) 153 L st S = (O_aload 0 1) (nx cod_X7_rotate cut_X7_rotate K n) 153 L st S) ∧
  (∀ (K : Kt QT) (n : Nat) (L : xL) (st : List Value) (S : QT), nx cod_X7_rotate cut_X7_rotate K (n + 1) 154 L st S = (O_iload 1 1) (nx cod_X7_rotate cut_X7_rotate K n) 154 L st S) ∧
  (∀ (K : Kt QT) (n : Nat) (L : xL) (st : List Value) (S : QT), nx cod_X7_rotate cut_X7_rotate K (n + 1) 155 L st S = (O_callV 1 0 (fun S => S) (fun _ S' => S') sp_X7_stop) (nx cod_X7_rotate cut_X7_rotate K n) 155 L st S) ∧
  (∀ (K : Kt QT) (n : Nat) (L : xL) (st : List Value) (S : QT), nx cod_X7_rotate cut_X7_rotate K (n + 1) 158 L st S = (O_vret) (nx cod_X7_rotate cut_X7_rotate K n) 158 L st S) ∧
  (∀ (K : Kt QT) (n : Nat) (L : xL) (st : List Value) (S : QT), nx cod_X7_rotate cut_X7_rotate K (n + 1) 100000 L st S = K 100000 L st S) := by
  repeat' apply And.intro
  all_goals (intros; rfl)
set_option maxRecDepth 100000 in
theorem mk_X7_rotate {P P' : QT} {r : Option Value}  (body : ∀ E : En, CodOk E aW cod_X7_rotate → Gd E aW 100000 [] r.toList P' → Gd E aW 0 [some (.ref 0), none, none, none, none] [] P) : Con yX7_rotate cX7_rotate 5 none 4 aW [.ref 0] P r P' :=
  Con.of (by decide) ((aW_len P').trans (aW_len P).symm) rfl (Nat.le_of_ble_eq_true rfl) (fun E F G hr => body E (okc_X7_rotate F G) hr)
set_option maxRecDepth 10000 in
theorem con_X7_rotate (S : ST) (M : MT) (fl : Bool)  (hp : fl = true ∧ S.inv 3) : Con yX7_rotate cX7_rotate 5 none 4 aW [.ref 0] (S, M, fl) (none) ((S.rotate, M, fl)) := by
  refine mk_X7_rotate (fun E C hr => ?_)
  obtain ⟨rfl, hi⟩ := hp
  have hE := ST.inv_rm (n := 2) hi
  have hP := hi.1
  have ho := hi.1.1
  by_cases c1 : S.settings 18 = 0
  · have e : S.rotate = S := if_pos (Or.inl c1)
    rw [e] at hr
    clear e hi
    (refine nx_ok C (cuts := cut_X7_rotate) 1000 _ _ _ _ ?_; simp only [w_X7_rotate, ops_eq, xst_eq, call_eq, oK_eq, Option.toList_some, Option.toList_none, List.cons_append, List.nil_append, List.length_cons, List.length_nil, true_and, and_true, Nat.reduceAdd, aW_F, aW_A, aW_P, aW_w, abs_eq, O_asti_eq, v170, cl_eq, ST_id, MT_gs, ST_gs, PT_gs, ZT_gs, NT_gs, ET_gs, se_X7_setting, se_X7_of, se_X7_isReady, se_X7_begins, sea_X7_event, se_X7_stop, v19_eq, c1])
    ((repeat' (with_reducible first | apply And.intro | intro _)) <;> first | (with_reducible assumption) | (with_reducible exact Nat.zero_le _) | exact absurd trivial ‹¬True› | (simp_all [ST_id, MT_gs, ST_gs, PT_gs, ZT_gs, NT_gs, ET_gs]; done) | assumption | simp_all)
  by_cases c2 : S.P.vrb = -1
  · have e : S.rotate = S := if_pos (Or.inr (Or.inl ((PT.vok_has hP).mpr c2)))
    rw [e] at hr
    clear e hi
    (refine nx_ok C (cuts := cut_X7_rotate) 1000 _ _ _ _ ?_; simp only [w_X7_rotate, ops_eq, xst_eq, call_eq, oK_eq, Option.toList_some, Option.toList_none, List.cons_append, List.nil_append, List.length_cons, List.length_nil, true_and, and_true, Nat.reduceAdd, aW_F, aW_A, aW_P, aW_w, abs_eq, O_asti_eq, v170, cl_eq, ST_id, MT_gs, ST_gs, PT_gs, ZT_gs, NT_gs, ET_gs, se_X7_setting, se_X7_of, se_X7_isReady, se_X7_begins, sea_X7_event, se_X7_stop, v19_eq, c1, c2])
    ((repeat' (with_reducible first | apply And.intro | intro _)) <;> first | (with_reducible assumption) | (with_reducible exact Nat.zero_le _) | exact absurd trivial ‹¬True› | (simp_all [ST_id, MT_gs, ST_gs, PT_gs, ZT_gs, NT_gs, ET_gs]; done) | assumption | simp_all)
  have hh : S.P.has S.P.vrb = true := by
    cases z : S.P.has S.P.vrb
    · exact absurd ((PT.vok_has hP).mp z) c2
    · rfl
  have hv := PT.has_in ho hh
  obtain ⟨w, w1, w2, w3, w4, w5⟩ := PT.vok_lt hP hh
  by_cases c3 : S.P.since S.P.vrb.toNatClampNeg < S.settings 18
  · have e : S.rotate = S := if_pos (Or.inr (Or.inr (Or.inl c3)))
    rw [e] at hr
    clear e hi w2 w3
    (refine nx_ok C (cuts := cut_X7_rotate) 1000 _ _ _ _ ?_; simp only [w_X7_rotate, ops_eq, xst_eq, call_eq, oK_eq, Option.toList_some, Option.toList_none, List.cons_append, List.nil_append, List.length_cons, List.length_nil, true_and, and_true, Nat.reduceAdd, aW_F, aW_A, aW_P, aW_w, abs_eq, O_asti_eq, v170, cl_eq, ST_id, MT_gs, ST_gs, PT_gs, ZT_gs, NT_gs, ET_gs, se_X7_setting, se_X7_of, se_X7_isReady, se_X7_begins, sea_X7_event, se_X7_stop, v19_eq, v8_eq, get_eq, hv, c1, c2, c3])
    ((repeat' (with_reducible first | apply And.intro | intro _)) <;> first | (with_reducible assumption) | (with_reducible exact Nat.zero_le _) | exact absurd trivial ‹¬True› | (simp_all [ST_id, MT_gs, ST_gs, PT_gs, ZT_gs, NT_gs, ET_gs]; done) | assumption | simp_all)
  have h129 : ∀ q3 q4 : Option Value, Gd E aW 129 [some (.ref 0), some (.int S.P.vrb), some (.int S.P.nextRot), q3, q4] [] (S, M, true) := by
    intro q3 q4
    by_cases c4 : S.P.nextRot = -1
    · have e : S.rotate = S := if_pos (Or.inr (Or.inr (Or.inr c4)))
      rw [e] at hr
      clear e hi w2 w3
      (refine nx1_ok C cut_X7_rotate 1000 ?_; simp only [w_X7_rotate, ops_eq, xst_eq, call_eq, oK_eq, Option.toList_some, Option.toList_none, List.cons_append, List.nil_append, List.length_cons, List.length_nil, true_and, and_true, Nat.reduceAdd, aW_F, aW_A, aW_P, aW_w, abs_eq, O_asti_eq, v170, cl_eq, ST_id, MT_gs, ST_gs, PT_gs, ZT_gs, NT_gs, ET_gs, se_X7_setting, se_X7_of, se_X7_isReady, se_X7_begins, sea_X7_event, se_X7_stop, c4])
      ((repeat' (with_reducible first | apply And.intro | intro _)) <;> first | (with_reducible assumption) | (with_reducible exact Nat.zero_le _) | exact absurd trivial ‹¬True› | (simp_all [ST_id, MT_gs, ST_gs, PT_gs, ZT_gs, NT_gs, ET_gs]; done) | assumption | simp_all)
    · obtain ⟨i, hin, e, g1, g2⟩ := (PT.nextRot_ok hP).resolve_left c4
      have hrot : S.rotate = ((S.start S.P.nextRot (S.P.speeds S.P.vrb.toNatClampNeg)).event 7 S.P.nextRot).stop S.P.vrb := if_neg (fun z => z.elim c1 (fun z => z.elim (fun z => by rw [hh] at z; cases z) (fun z => z.elim c3 c4)))
      have ec : S.P.nextRot.toNatClampNeg = i := by rw [e]; exact (ixs ho hin).2.1
      have hb : S.P.has S.P.nextRot = true := by rw [e]; exact PT.n_has ho hin
      have hvb := PT.has_in ho hb
      have hrun : S.P.run S.P.vrb.toNatClampNeg = true := by rw [w3]; simpa [PT.run] using w4
      have hne : ¬ S.P.vrb.toNatClampNeg = S.P.nextRot.toNatClampNeg := by
        rw [w3, ec]
        intro z
        subst z
        simp only [PT.rdy, decide_eq_true_eq] at g1
        rw [g1.2] at w4
        exact absurd w4 (by decide)
      have hwb : ¬ S.P.vrb = S.P.nextRot := fun z => hne (by rw [z])
      have hy : S.P.rdy S.P.nextRot.toNatClampNeg = true := by rw [ec]; exact g1
      have hk : ¬ S.P.kinds S.P.nextRot.toNatClampNeg = 0 := by rw [ec]; exact g2
      have hsp : rng (S.P.speeds S.P.vrb.toNatClampNeg) 1 1000 := by
        have h6 := (hP.2.1 w w1).2.2.1
        rw [Int32.lt_iff_toInt_lt, iz.1] at w4
        rw [w3]
        exact ⟨by omega, h6.2⟩
      obtain ⟨r1, r2⟩ := rot_stop (S := S) (w := S.P.vrb) (b := S.P.nextRot) (v := S.P.speeds S.P.vrb.toNatClampNeg) hh hne hwb hrun
      have hst : S.start S.P.nextRot (S.P.speeds S.P.vrb.toNatClampNeg) = (S.sP ((S.P.sSpeeds (upd S.P.speeds S.P.vrb.toNatClampNeg 1000)).bgn S.P.nextRot (S.P.speeds S.P.vrb.toNatClampNeg) 1)).event 0 S.P.nextRot := by
        show (S.sP (S.P.start S.P.nextRot (S.P.speeds S.P.vrb.toNatClampNeg))).event 0 S.P.nextRot = _
        rw [(PT.start_bgn hP hb hy _).2.2 hk c2]
      rw [hrot, hst, ← r1] at hr
      have hbi := PT.bgn_inv hP hb hy hk hsp
      have hX : (S.sP (S.P.bgn S.P.nextRot (S.P.speeds S.P.vrb.toNatClampNeg) 1)).inv 3 := ST.sP_inv hi hbi
      have hX1 := ST.event_inv (n := 2) hX 0 S.P.nextRot
      have hE1 := ST.inv_rm (n := 1) hX1
      have hE2 := ST.inv_rm (n := 0) (ST.event_inv (n := 1) hX1 7 S.P.nextRot)
      clear hrot hst r1 hX hX1 hi hne hwb hy hk hsp w2 w3 w4 w5 e ec
      (refine nx1_ok C cut_X7_rotate 1000 ?_; simp only [w_X7_rotate, ops_eq, xst_eq, call_eq, oK_eq, Option.toList_some, Option.toList_none, List.cons_append, List.nil_append, List.length_cons, List.length_nil, true_and, and_true, Nat.reduceAdd, aW_F, aW_A, aW_P, aW_w, abs_eq, O_asti_eq, v170, cl_eq, ST_id, MT_gs, ST_gs, PT_gs, ZT_gs, NT_gs, ET_gs, se_X7_setting, se_X7_of, se_X7_isReady, se_X7_begins, sea_X7_event, se_X7_stop, ev_t, v19_eq, v8_eq, get_eq, ST_P, hv, hvb, hE, hE1, hE2, hbi, r2, c4])
      ((repeat' (with_reducible first | apply And.intro | intro _)) <;> first | (with_reducible assumption) | (with_reducible exact Nat.zero_le _) | exact absurd trivial ‹¬True› | (simp_all [ST_id, MT_gs, ST_gs, PT_gs, ZT_gs, NT_gs, ET_gs]; done) | assumption | simp_all)
  clear hr
  rw [PT.rot_eq ho hh] at h129
  have key : ∀ q4 : Option Value, Gd E aW 42 [some (.ref 0), some (.int S.P.vrb), some (.int (-1)), some (.int (nI 0)), q4] [] (S, M, true) := by
    refine it_up (f := S.P.rotF S.P.vrb.toNatClampNeg) (a := (-1 : Int32)) (n := S.P.n) (fun _ b => isP b 6) (fun i b => ∀ q4 : Option Value, Gd E aW 42 [some (.ref 0), some (.int S.P.vrb), some (.int b), some (.int (nI i)), q4] [] (S, M, true)) (Or.inl rfl) (fun i b hin hb => ite_isP (ixs ho hin).1 hb) (fun i b hin hb hn q4 => ?_) (fun q4 => ?_)
    · have hx := ixs ho hin
      have hbb := PT.n_has ho hin
      have hn := hn (some (.int (bI (decide (S.P.rdy i = true ∧ ¬ S.P.kinds i = 0 ∧ S.P.minutes i < S.P.minutes S.P.vrb.toNatClampNeg)))))
      unfold isP at hb
      unfold PT.rotF at hn
      clear h129 w2 w3 hi
      (refine nx1_ok C cut_X7_rotate 1000 ?_; simp only [w_X7_rotate, ops_eq, xst_eq, call_eq, oK_eq, Option.toList_some, Option.toList_none, List.cons_append, List.nil_append, List.length_cons, List.length_nil, true_and, and_true, Nat.reduceAdd, aW_F, aW_A, aW_P, aW_w, abs_eq, O_asti_eq, v170, cl_eq, ST_id, MT_gs, ST_gs, PT_gs, ZT_gs, NT_gs, ET_gs, se_X7_setting, se_X7_of, se_X7_isReady, se_X7_begins, sea_X7_event, se_X7_stop, hx, v8_eq, bI_eq, get_eq, hbb, hP, hv])
      ((repeat' (with_reducible first | apply And.intro | intro _)) <;> simp_all [bI, ST_id, MT_gs, ST_gs, PT_gs, ZT_gs, NT_gs, ET_gs])
    · have hx := ixe ho
      have h129 := h129 (some (.int S.P.size)) q4
      clear w2 w3 hi
      (refine nx1_ok C cut_X7_rotate 1000 ?_; simp only [w_X7_rotate, ops_eq, xst_eq, call_eq, oK_eq, Option.toList_some, Option.toList_none, List.cons_append, List.nil_append, List.length_cons, List.length_nil, true_and, and_true, Nat.reduceAdd, aW_F, aW_A, aW_P, aW_w, abs_eq, O_asti_eq, v170, cl_eq, ST_id, MT_gs, ST_gs, PT_gs, ZT_gs, NT_gs, ET_gs, se_X7_setting, se_X7_of, se_X7_isReady, se_X7_begins, sea_X7_event, se_X7_stop, hx])
      ((repeat' (with_reducible first | apply And.intro | intro _)) <;> first | (with_reducible assumption) | (with_reducible exact Nat.zero_le _) | exact absurd trivial ‹¬True› | (simp_all [ST_id, MT_gs, ST_gs, PT_gs, ZT_gs, NT_gs, ET_gs]; done) | assumption | simp_all)
  have key := key none
  clear h129 w2 w3 hi
  (refine nx_ok C (cuts := cut_X7_rotate) 1000 _ _ _ _ ?_; simp only [w_X7_rotate, ops_eq, xst_eq, call_eq, oK_eq, Option.toList_some, Option.toList_none, List.cons_append, List.nil_append, List.length_cons, List.length_nil, true_and, and_true, Nat.reduceAdd, aW_F, aW_A, aW_P, aW_w, abs_eq, O_asti_eq, v170, cl_eq, ST_id, MT_gs, ST_gs, PT_gs, ZT_gs, NT_gs, ET_gs, se_X7_setting, se_X7_of, se_X7_isReady, se_X7_begins, sea_X7_event, se_X7_stop, v19_eq, v8_eq, get_eq, hv, c1, c2, c3])
  ((repeat' (with_reducible first | apply And.intro | intro _)) <;> simp_all [nI_0, ST_id, MT_gs, ST_gs, PT_gs, ZT_gs, NT_gs, ET_gs])
def spc_X7_rotate (S : ST) (M : MT) (fl : Bool)  (K : Option Value → QT → Prop) : Prop := (fl = true ∧ S.inv 3) ∧ K (none) ((S.rotate, M, fl))
def sp_X7_rotate : Sp QT := fun av q K => match av with
  | [.ref 0] => spc_X7_rotate q.1 q.2.1 q.2.2  K
  | _ => False
theorem se_X7_rotate (S : ST) (M : MT) (fl : Bool)  (K : Option Value → QT → Prop) : sp_X7_rotate [.ref 0] (S, M, fl) K = ((fl = true ∧ S.inv 3) ∧ K (none) ((S.rotate, M, fl))) := rfl
theorem spok_X7_rotate : SpOk yX7_rotate cX7_rotate 5 none 4 aW sp_X7_rotate := by
  intro av q K h
  unfold sp_X7_rotate at h
  split at h
  · refine ⟨_, _, ?_, con_X7_rotate q.1 q.2.1 q.2.2  h.1, h.2⟩; trivial
  · exact h.elim
