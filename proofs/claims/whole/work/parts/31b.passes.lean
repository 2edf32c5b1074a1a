/-! ===== the reference: minutes, passing, foreseeing ===== -/
theorem Gd_same {σ : Type} {E : En} {toW : σ → xW} {pc : Nat} {L : xL} {st : List Value} {q q' : σ} (e : toW q = toW q') (h : Gd E toW pc L st q) : Gd E toW pc L st q' := by
  unfold Gd at *
  rw [← e]
  exact h
def MT.saw (M : MT) (S : ST) : MT := M.sSeen (M.seen ||| mask S)
theorem saw_w (S : ST) (M : MT) : aW (S, M, true) = aW (S, M.saw S, false) := rfl
theorem mask_tick {S : ST} {n : Nat} (h : S.inv (n + 1)) : mask (S.sTime (S.time + 1)) = 0 := by
  obtain ⟨h8, h9, h10⟩ := h.2.2.2.2.2.2.2.1
  have ht : (S.time + 1).toInt = S.time.toInt + 1 := add1 (by have := h.2.2.2.2.2.2.2.2.2; omega)
  have hk : ∀ k b, k < 8 → mk1 (S.sTime (S.time + 1)) k b = 0 := fun k b hk => by
    refine if_neg (fun e => ?_)
    have e2 : S.E.latest k = S.time + 1 := e
    have := h10 k hk
    rw [e2, ht] at this
    omega
  unfold mask
  rw [hk 0 _ (by omega), hk 1 _ (by omega), hk 2 _ (by omega), hk 3 _ (by omega), hk 4 _ (by omega), hk 5 _ (by omega), hk 6 _ (by omega), hk 7 _ (by omega)]
  rfl
theorem aW_tick {S : ST} {n : Nat} (h : S.inv (n + 1)) (M : MT) : aW_wi (S, M, false) 1 0 (S.time + 1) = some (S.sTime (S.time + 1), M, true) := by
  unfold aW_wi
  dsimp only
  rw [if_pos]
  · rfl
  · refine ⟨rfl, by decide, by decide, ?_⟩
    show M.seen ||| mask (S.sTime (S.time + 1)) = M.seen
    rw [mask_tick h]
    exact Int32.or_zero
def cod_X7_minute : List (Nat × Op QT) := [(0, O_aload 0 1), (1, O_getf aW 7 0), (4, O_int 0 1), (5, O_dup2), (6, O_ald aW 0), (7, O_int 1 1), (8, O_iadd), (9, O_asti aW aW_wi), (10, O_aload 0 1), (11, O_callV 0 0 (fun S => S) (fun _ S' => S') sp_X7_programmes), (14, O_aload 0 1), (15, O_callV 0 0 (fun S => S) (fun _ S' => S') sp_X7_water), (18, O_aload 0 1), (19, O_callV 0 0 (fun S => S) (fun _ S' => S') sp_X7_night), (22, O_aload 0 1), (23, O_callV 0 0 (fun S => S) (fun _ S' => S') sp_X7_dryness), (26, O_aload 0 1), (27, O_getf aW 7 0), (30, O_int 5 1), (31, O_ald aW 0), (32, O_int 1 1), (33, O_icmp_ne 41), (36, O_aload 0 1), (37, O_callV 0 0 (fun S => S) (fun _ S' => S') sp_X7_beginAnew), (40, O_vret), (41, O_aload 0 1), (42, O_callV 0 0 (fun S => S) (fun _ S' => S') sp_X7_regulate), (45, O_aload 0 1), (46, O_callV 0 0 (fun S => S) (fun _ S' => S') sp_X7_running), (49, O_if_ne 97), (52, O_aload 0 1), (53, O_getf aW 7 0), (56, O_int 1 1), (57, O_ald aW 0), (58, O_aload 0 1), (59, O_int 0 1), (60, O_callV 1 0 (fun S => S) (fun _ S' => S') sp_X7_setting), (63, O_aload 0 1), (64, O_int 9 2), (66, O_callV 1 0 (fun S => S) (fun _ S' => S') sp_X7_setting), (69, O_isub), (70, O_icmp_ge 97), (73, O_aload 0 1), (74, O_int 0 1), (75, O_callV 1 0 (fun S => S) (fun _ S' => S') sp_X7_ready), (78, O_int (-1) 1), (79, O_icmp_eq 97), (82, O_aload 0 1), (83, O_aload 0 1), (84, O_int 0 1), (85, O_callV 1 0 (fun S => S) (fun _ S' => S') sp_X7_ready), (88, O_callV 1 0 (fun S => S) (fun _ S' => S') sp_X7_start), (91, O_aload 0 1), (92, O_int 3 1), (93, O_int (-1) 1), (94, O_callV 2 0 (fun S => S) (fun _ S' => S') spa_X7_event), (97, O_aload 0 1), (98, O_callV 0 0 (fun S => S) (fun _ S' => S') sp_X7_countAll), (101, O_aload 0 1), (102, O_callV 0 0 (fun S => S) (fun _ S' => S') sp_X7_cascade), (105, O_aload 0 1), (106, O_callV 0 0 (fun S => S) (fun _ S' => S') sp_X7_rotate), (109, O_vret)]
abbrev cut_X7_minute : List Nat := [45, 97]
set_option maxRecDepth 100000 in
theorem okc_X7_minute {E : En} (F : Fx E RX7 cX7_minute 1 6) (G : Fr E none) : CodOk E aW cod_X7_minute := by
  unfold CodOk cod_X7_minute
  refine List.forall_mem_cons.mpr ⟨ok_aload_n F dX7_minute_0 rfl (by decide), ?_⟩
  refine List.forall_mem_cons.mpr ⟨ok_getf F flX7_7 dX7_minute_1 (by decide), ?_⟩
  refine List.forall_mem_cons.mpr ⟨ok_iconst F dX7_minute_4 (by decide) (by decide), ?_⟩
  refine List.forall_mem_cons.mpr ⟨ok_dup2 F dX7_minute_5 (by decide), ?_⟩
  refine List.forall_mem_cons.mpr ⟨ok_iald F dX7_minute_6 (by decide), ?_⟩
  refine List.forall_mem_cons.mpr ⟨ok_iconst F dX7_minute_7 (by decide) (by decide), ?_⟩
  refine List.forall_mem_cons.mpr ⟨ok_iadd F dX7_minute_8 (by decide), ?_⟩
  refine List.forall_mem_cons.mpr ⟨ok_asti F aW_wok dX7_minute_9 (by decide), ?_⟩
  refine List.forall_mem_cons.mpr ⟨ok_aload_n F dX7_minute_10 rfl (by decide), ?_⟩
  refine List.forall_mem_cons.mpr ⟨ok_callV F spok_X7_programmes (ln_id aW) rcv_aW (by decide +kernel) (by decide) dX7_minute_11 (by decide), ?_⟩
  refine List.forall_mem_cons.mpr ⟨ok_aload_n F dX7_minute_14 rfl (by decide), ?_⟩
  refine List.forall_mem_cons.mpr ⟨ok_callV F spok_X7_water (ln_id aW) rcv_aW (by decide +kernel) (by decide) dX7_minute_15 (by decide), ?_⟩
  refine List.forall_mem_cons.mpr ⟨ok_aload_n F dX7_minute_18 rfl (by decide), ?_⟩
  refine List.forall_mem_cons.mpr ⟨ok_callV F spok_X7_night (ln_id aW) rcv_aW (by decide +kernel) (by decide) dX7_minute_19 (by decide), ?_⟩
  refine List.forall_mem_cons.mpr ⟨ok_aload_n F dX7_minute_22 rfl (by decide), ?_⟩
  refine List.forall_mem_cons.mpr ⟨ok_callV F spok_X7_dryness (ln_id aW) rcv_aW (by decide +kernel) (by decide) dX7_minute_23 (by decide), ?_⟩
  refine List.forall_mem_cons.mpr ⟨ok_aload_n F dX7_minute_26 rfl (by decide), ?_⟩
  refine List.forall_mem_cons.mpr ⟨ok_getf F flX7_7 dX7_minute_27 (by decide), ?_⟩
  refine List.forall_mem_cons.mpr ⟨ok_iconst F dX7_minute_30 (by decide) (by decide), ?_⟩
  refine List.forall_mem_cons.mpr ⟨ok_iald F dX7_minute_31 (by decide), ?_⟩
  refine List.forall_mem_cons.mpr ⟨ok_iconst F dX7_minute_32 (by decide) (by decide), ?_⟩
  refine List.forall_mem_cons.mpr ⟨ok_icmp_ne F dX7_minute_33 (by decide) (by decide) (by decide), ?_⟩
  refine List.forall_mem_cons.mpr ⟨ok_aload_n F dX7_minute_36 rfl (by decide), ?_⟩
  refine List.forall_mem_cons.mpr ⟨ok_callV F spok_X7_beginAnew (ln_id aW) rcv_aW (by decide +kernel) (by decide) dX7_minute_37 (by decide), ?_⟩
  refine List.forall_mem_cons.mpr ⟨ok_vret F G dX7_minute_40 (by decide), ?_⟩
  refine List.forall_mem_cons.mpr ⟨ok_aload_n F dX7_minute_41 rfl (by decide), ?_⟩
  refine List.forall_mem_cons.mpr ⟨ok_callV F spok_X7_regulate (ln_id aW) rcv_aW (by decide +kernel) (by decide) dX7_minute_42 (by decide), ?_⟩
  refine List.forall_mem_cons.mpr ⟨ok_aload_n F dX7_minute_45 rfl (by decide), ?_⟩
  refine List.forall_mem_cons.mpr ⟨ok_callV F spok_X7_running (ln_id aW) rcv_aW (by decide +kernel) (by decide) dX7_minute_46 (by decide), ?_⟩
  refine List.forall_mem_cons.mpr ⟨ok_if_ne F dX7_minute_49 (by decide) (by decide) (by decide), ?_⟩
  refine List.forall_mem_cons.mpr ⟨ok_aload_n F dX7_minute_52 rfl (by decide), ?_⟩
  refine List.forall_mem_cons.mpr ⟨ok_getf F flX7_7 dX7_minute_53 (by decide), ?_⟩
  refine List.forall_mem_cons.mpr ⟨ok_iconst F dX7_minute_56 (by decide) (by decide), ?_⟩
  refine List.forall_mem_cons.mpr ⟨ok_iald F dX7_minute_57 (by decide), ?_⟩
  refine List.forall_mem_cons.mpr ⟨ok_aload_n F dX7_minute_58 rfl (by decide), ?_⟩
  refine List.forall_mem_cons.mpr ⟨ok_iconst F dX7_minute_59 (by decide) (by decide), ?_⟩
  refine List.forall_mem_cons.mpr ⟨ok_callV F spok_X7_setting (ln_id aW) rcv_aW (by decide +kernel) (by decide) dX7_minute_60 (by decide), ?_⟩
  refine List.forall_mem_cons.mpr ⟨ok_aload_n F dX7_minute_63 rfl (by decide), ?_⟩
  refine List.forall_mem_cons.mpr ⟨ok_bipush F dX7_minute_64 (by decide) (by decide), ?_⟩
  refine List.forall_mem_cons.mpr ⟨ok_callV F spok_X7_setting (ln_id aW) rcv_aW (by decide +kernel) (by decide) dX7_minute_66 (by decide), ?_⟩
  refine List.forall_mem_cons.mpr ⟨ok_isub F dX7_minute_69 (by decide), ?_⟩
  refine List.forall_mem_cons.mpr ⟨ok_icmp_ge F dX7_minute_70 (by decide) (by decide) (by decide), ?_⟩
  refine List.forall_mem_cons.mpr ⟨ok_aload_n F dX7_minute_73 rfl (by decide), ?_⟩
  refine List.forall_mem_cons.mpr ⟨ok_iconst F dX7_minute_74 (by decide) (by decide), ?_⟩
  refine List.forall_mem_cons.mpr ⟨ok_callV F spok_X7_ready (ln_id aW) rcv_aW (by decide +kernel) (by decide) dX7_minute_75 (by decide), ?_⟩
  refine List.forall_mem_cons.mpr ⟨ok_iconst F dX7_minute_78 (by decide) (by decide), ?_⟩
  refine List.forall_mem_cons.mpr ⟨ok_icmp_eq F dX7_minute_79 (by decide) (by decide) (by decide), ?_⟩
  refine List.forall_mem_cons.mpr ⟨ok_aload_n F dX7_minute_82 rfl (by decide), ?_⟩
  refine List.forall_mem_cons.mpr ⟨ok_aload_n F dX7_minute_83 rfl (by decide), ?_⟩
  refine List.forall_mem_cons.mpr ⟨ok_iconst F dX7_minute_84 (by decide) (by decide), ?_⟩
  refine List.forall_mem_cons.mpr ⟨ok_callV F spok_X7_ready (ln_id aW) rcv_aW (by decide +kernel) (by decide) dX7_minute_85 (by decide), ?_⟩
  refine List.forall_mem_cons.mpr ⟨ok_callV F spok_X7_start (ln_id aW) rcv_aW (by decide +kernel) (by decide) dX7_minute_88 (by decide), ?_⟩
  refine List.forall_mem_cons.mpr ⟨ok_aload_n F dX7_minute_91 rfl (by decide), ?_⟩
  refine List.forall_mem_cons.mpr ⟨ok_iconst F dX7_minute_92 (by decide) (by decide), ?_⟩
  refine List.forall_mem_cons.mpr ⟨ok_iconst F dX7_minute_93 (by decide) (by decide), ?_⟩
  refine List.forall_mem_cons.mpr ⟨ok_callV F spoka_X7_event (ln_id aW) rcv_aW (by decide +kernel) (by decide) dX7_minute_94 (by decide), ?_⟩
  refine List.forall_mem_cons.mpr ⟨ok_aload_n F dX7_minute_97 rfl (by decide), ?_⟩
  refine List.forall_mem_cons.mpr ⟨ok_callV F spok_X7_countAll (ln_id aW) rcv_aW (by decide +kernel) (by decide) dX7_minute_98 (by decide), ?_⟩
  refine List.forall_mem_cons.mpr ⟨ok_aload_n F dX7_minute_101 rfl (by decide), ?_⟩
  refine List.forall_mem_cons.mpr ⟨ok_callV F spok_X7_cascade (ln_id aW) rcv_aW (by decide +kernel) (by decide) dX7_minute_102 (by decide), ?_⟩
  refine List.forall_mem_cons.mpr ⟨ok_aload_n F dX7_minute_105 rfl (by decide), ?_⟩
  refine List.forall_mem_cons.mpr ⟨ok_callV F spok_X7_rotate (ln_id aW) rcv_aW (by decide +kernel) (by decide) dX7_minute_106 (by decide), ?_⟩
  refine List.forall_mem_cons.mpr ⟨ok_vret F G dX7_minute_109 (by decide), ?_⟩
  exact fun _ h => absurd h List.not_mem_nil
set_option maxRecDepth 100000 in
theorem w_X7_minute : (∀ (K : Kt QT) (n : Nat) (L : xL) (st : List Value) (S : QT), nx cod_X7_minute cut_X7_minute K (n + 1) 0 L st S = (O_aload 0 1) (nx cod_X7_minute cut_X7_minute K n) 0 L st S) ∧
  (∀ (K : Kt QT) (n : Nat) (L : xL) (st : List Value) (S : QT), nx cod_X7_minute cut_X7_minute K (n + 1) 1 L st S = (O_getf aW 7 0) (nx cod_X7_minute cut_X7_minute K n) 1 L st S) ∧
  (∀ (K : Kt QT) (n : Nat) (L : xL) (st : List Value) (S : QT), nx cod_X7_minute cut_X7_minute K (n + 1) 4 L st S = (O_int 0 1) (nx cod_X7_minute cut_X7_minute K n) 4 L st S) ∧
  (∀ (K : Kt QT) (n : Nat) (L : xL) (st : List Value) (S : QT), nx cod_X7_minute cut_X7_minute K (n + 1) 5 L st S = (O_dup2) (nx cod_X7_minute cut_X7_minute K n) 5 L st S) ∧
  (∀ (K : Kt QT) (n : Nat) (L : xL) (st : List Value) (S : QT), nx cod_X7_minute cut_X7_minute K (n + 1) 6 L st S = (O_ald aW 0) (nx cod_X7_minute cut_X7_minute K n) 6 L st S) ∧
  (∀ (K : Kt QT) (n : Nat) (L : xL) (st : List Value) (S : QT), nx cod_X7_minute cut_X7_minute K (n + 1) 7 L st S = (O_int 1 1) (nx cod_X7_minute cut_X7_minute K n) 7 L st S) ∧
  (∀ (K : Kt QT) (n : Nat) (L : xL) (st : List Value) (S : QT), nx cod_X7_minute cut_X7_minute K (n + 1) 8 L st S = (O_iadd) (nx cod_X7_minute cut_X7_minute K n) 8 L st S) ∧
  (∀ (K : Kt QT) (n : Nat) (L : xL) (st : List Value) (S : QT), nx cod_X7_minute cut_X7_minute K (n + 1) 9 L st S = (O_asti aW aW_wi) (nx cod_X7_minute cut_X7_minute K n) 9 L st S) ∧
  (∀ (K : Kt QT) (n : Nat) (L : xL) (st : List Value) (S : QT), nx cod_X7_minute cut_X7_minute K (n + 1) 10 L st S = (O_aload 0 1) (nx cod_X7_minute cut_X7_minute K n) 10 L st S) ∧
  (∀ (K : Kt QT) (n : Nat) (L : xL) (st : List Value) (S : QT), nx cod_X7_minute cut_X7_minute K (n + 1) 11 L st S = (O_callV 0 0 (fun S => S) (fun _ S' => S') sp_X7_programmes) (nx cod_X7_minute cut_X7_minute K n) 11 L st S) ∧
  (∀ (K : Kt QT) (n : Nat) (L : xL) (st : List Value) (S : QT), nx cod_X7_minute cut_X7_minute K (n + 1) 14 L st S = (O_aload 0 1) (nx cod_X7_minute cut_X7_minute K n) 14 L st S) ∧
  (∀ (K : Kt QT) (n : Nat) (L : xL) (st : List Value) (S : QT), nx cod_X7_minute cut_X7_minute K (n + 1) 15 L st S = (O_callV 0 0 (fun S => S) (fun _ S' => S') sp_X7_water) (nx cod_X7_minute cut_X7_minute K n) 15 L st S) ∧
  (∀ (K : Kt QT) (n : Nat) (L : xL) (st : List Value) (S : QT), nx cod_X7_minute cut_X7_minute K (n + 1) 18 L st S = (O_aload 0 1) (nx cod_X7_minute cut_X7_minute K n) 18 L st S) ∧
  (∀ (K : Kt QT) (n : Nat) (L : xL) (st : List Value) (S : QT), nx cod_X7_minute cut_X7_minute K (n + 1) 19 L st S = (O_callV 0 0 (fun S => S) (fun _ S' => S') sp_X7_night) (nx cod_X7_minute cut_X7_minute K n) 19 L st S) ∧
  (∀ (K : Kt QT) (n : Nat) (L : xL) (st : List Value) (S : QT), nx cod_X7_minute cut_X7_minute K (n + 1) 22 L st S = (O_aload 0 1) (nx cod_X7_minute cut_X7_minute K n) 22 L st S) ∧
  (∀ (K : Kt QT) (n : Nat) (L : xL) (st : List Value) (S : QT), nx cod_X7_minute cut_X7_minute K (n + 1) 23 L st S = (O_callV 0 0 (fun S => S) (fun _ S' => S') sp_X7_dryness) (nx cod_X7_minute cut_X7_minute K n) 23 L st S) ∧
  (∀ (K : Kt QT) (n : Nat) (L : xL) (st : List Value) (S : QT), nx cod_X7_minute cut_X7_minute K (n + 1) 26 L st S = (O_aload 0 1) (nx cod_X7_minute cut_X7_minute K n) 26 L st S) ∧
  (∀ (K : Kt QT) (n : Nat) (L : xL) (st : List Value) (S : QT), nx cod_X7_minute cut_X7_minute K (n + 1) 27 L st S = (O_getf aW 7 0) (nx cod_X7_minute cut_X7_minute K n) 27 L st S) ∧
  (∀ (K : Kt QT) (n : Nat) (L : xL) (st : List Value) (S : QT), nx cod_X7_minute cut_X7_minute K (n + 1) 30 L st S = (O_int 5 1) (nx cod_X7_minute cut_X7_minute K n) 30 L st S) ∧
  (∀ (K : Kt QT) (n : Nat) (L : xL) (st : List Value) (S : QT), nx cod_X7_minute cut_X7_minute K (n + 1) 31 L st S = (O_ald aW 0) (nx cod_X7_minute cut_X7_minute K n) 31 L st S) ∧
  (∀ (K : Kt QT) (n : Nat) (L : xL) (st : List Value) (S : QT), nx cod_X7_minute cut_X7_minute K (n + 1) 32 L st S = (O_int 1 1) (nx cod_X7_minute cut_X7_minute K n) 32 L st S) ∧
  (∀ (K : Kt QT) (n : Nat) (L : xL) (st : List Value) (S : QT), nx cod_X7_minute cut_X7_minute K (n + 1) 33 L st S = (O_icmp_ne 41) (nx cod_X7_minute cut_X7_minute K n) 33 L st S) ∧
  (∀ (K : Kt QT) (n : Nat) (L : xL) (st : List Value) (S : QT), nx cod_X7_minute cut_X7_minute K (n + 1) 36 L st S = (O_aload 0 1) (nx cod_X7_minute cut_X7_minute K n) 36 L st S) ∧
  (∀ (K : Kt QT) (n : Nat) (L : xL) (st : List Value) (S : QT), nx cod_X7_minute cut_X7_minute K (n + 1) 37 L st S = (O_callV 0 0 (fun S => S) (fun _ S' => S') sp_X7_beginAnew) (nx cod_X7_minute cut_X7_minute K n) 37 L st S) ∧
  (∀ (K : Kt QT) (n : Nat) (L : xL) (st : List Value) (S : QT), nx cod_X7_minute cut_X7_minute K (n + 1) 40 L st S = (O_vret) (nx cod_X7_minute cut_X7_minute K n) 40 L st S) ∧
  (∀ (K : Kt QT) (n : Nat) (L : xL) (st : List Value) (S : QT), nx cod_X7_minute cut_X7_minute K (n + 1) 41 L st S = (O_aload 0 1) (nx cod_X7_minute cut_X7_minute K n) 41 L st S) ∧
  (∀ (K : Kt QT) (n : Nat) (L : xL) (st : List Value) (S : QT), nx cod_X7_minute cut_X7_minute K (n + 1) 42 L st S = (O_callV 0 0 (fun S => S) (fun _ S' => S') sp_X7_regulate) (nx cod_X7_minute cut_X7_minute K n) 42 L st S) ∧
  (∀ (K : Kt QT) (n : Nat) (L : xL) (st : List Value) (S : QT), nx cod_X7_minute cut_X7_minute K (n + 1) 45 L st S = K 45 L st S) ∧
  (∀ (K : Kt QT) (n : Nat) (L : xL) (st : List Value) (S : QT), nx1 cod_X7_minute cut_X7_minute K n 45 L st S = (O_aload 0 1) (nx cod_X7_minute cut_X7_minute K n) 45 L st S) ∧
  (∀ (K : Kt QT) (n : Nat) (L : xL) (st : List Value) (S : QT), nx cod_X7_minute cut_X7_minute K (n + 1) 46 L st S = (O_callV 0 0 (fun S => S) (fun _ S' => S') sp_X7_running) (nx cod_X7_minute cut_X7_minute K n) 46 L st S) ∧
  (∀ (K : Kt QT) (n : Nat) (L : xL) (st : List Value) (S : QT), nx cod_X7_minute cut_X7_minute K (n + 1) 49 L st S = (O_if_ne 97) (nx cod_X7_minute cut_X7_minute K n) 49 L st S) ∧
  (∀ (K : Kt QT) (n : Nat) (L : xL) (st : List Value) (S : QT), nx cod_X7_minute cut_X7_minute K (n + 1) 52 L st S = (O_aload 0 1) (nx cod_X7_minute cut_X7_minute K n) 52 L st S) ∧
  (∀ (K : Kt QT) (n : Nat) (L : xL) (st : List Value) (S : QT), nx cod_X7_minute cut_X7_minute K (n + 1) 53 L st S = (O_getf aW 7 0) (nx cod_X7_minute cut_X7_minute K n) 53 L st S) ∧
  (∀ (K : Kt QT) (n : Nat) (L : xL) (st : List Value) (S : QT), nx cod_X7_minute cut_X7_minute K (n + 1) 56 L st S = (O_int 1 1) (nx cod_X7_minute cut_X7_minute K n) 56 L st S) ∧
  (∀ (K : Kt QT) (n : Nat) (L : xL) (st : List Value) (S : QT), nx cod_X7_minute cut_X7_minute K (n + 1) 57 L st S = (O_ald aW 0) (nx cod_X7_minute cut_X7_minute K n) 57 L st S) ∧
  (∀ (K : Kt QT) (n : Nat) (L : xL) (st : List Value) (S : QT), nx cod_X7_minute cut_X7_minute K (n + 1) 58 L st S = (O_aload 0 1) (nx cod_X7_minute cut_X7_minute K n) 58 L st S) ∧
  (∀ (K : Kt QT) (n : Nat) (L : xL) (st : List Value) (S : QT), nx cod_X7_minute cut_X7_minute K (n + 1) 59 L st S = (O_int 0 1) (nx cod_X7_minute cut_X7_minute K n) 59 L st S) ∧
  (∀ (K : Kt QT) (n : Nat) (L : xL) (st : List Value) (S : QT), nx cod_X7_minute cut_X7_minute K (n + 1) 60 L st S = (O_callV 1 0 (fun S => S) (fun _ S' => S') sp_X7_setting) (nx cod_X7_minute cut_X7_minute K n) 60 L st S) ∧
  (∀ (K : Kt QT) (n : Nat) (L : xL) (st : List Value) (S : QT), nx cod_X7_minute cut_X7_minute K (n + 1) 63 L st S = (O_aload 0 1) (nx cod_X7_minute cut_X7_minute K n) 63 L st S) ∧
  (∀ (K : Kt QT) (n : Nat) (L : xL) (st : List Value) (S : QT), nx cod_X7_minute cut_X7_minute K (n + 1) 64 L st S = (O_int 9 2) (nx cod_X7_minute cut_X7_minute K n) 64 L st S) ∧
  (∀ (K : Kt QT) (n : Nat) (L : xL) (st : List Value) (S : QT), nx cod_X7_minute cut_X7_minute K (n + 1) 66 L st S = (O_callV 1 0 (fun S => S) (fun _ S' => S') sp_X7_setting) (nx cod_X7_minute cut_X7_minute K n) 66 L st S) ∧
  (∀ (K : Kt QT) (n : Nat) (L : xL) (st : List Value) (S : QT), nx cod_X7_minute cut_X7_minute K (n + 1) 69 L st S = (O_isub) (nx cod_X7_minute cut_X7_minute K n) 69 L st S) ∧
  (∀ (K : Kt QT) (n : Nat) (L : xL) (st : List Value) (S : QT), nx cod_X7_minute cut_X7_minute K (n + 1) 70 L st S = (O_icmp_ge 97) (nx cod_X7_minute cut_X7_minute K n) 70 L st S) ∧
  (∀ (K : Kt QT) (n : Nat) (L : xL) (st : List Value) (S : QT), nx cod_X7_minute cut_X7_minute K (n + 1) 73 L st S = (O_aload 0 1) (nx cod_X7_minute cut_X7_minute K n) 73 L st S) ∧
  (∀ (K : Kt QT) (n : Nat) (L : xL) (st : List Value) (S : QT), nx cod_X7_minute cut_X7_minute K (n + 1) 74 L st S = (O_int 0 1) (nx cod_X7_minute cut_X7_minute K n) 74 L st S) ∧
  (∀ (K : Kt QT) (n : Nat) (L : xL) (st : List Value) (S : QT), nx cod_X7_minute cut_X7_minute K (n + 1) 75 L st S = (O_callV 1 0 (fun S => S) (fun _ S' => S') sp_X7_ready) (nx cod_X7_minute cut_X7_minute K n) 75 L st S) ∧
  (∀ (K : Kt QT) (n : Nat) (L : xL) (st : List Value) (S : QT), nx cod_X7_minute cut_X7_minute K (n + 1) 78 L st S = (O_int (-1) 1) (nx cod_X7_minute cut_X7_minute K n) 78 L st S) ∧
  (∀ (K : Kt QT) (n : Nat) (L : xL) (st : List Value) (S : QT), nx cod_X7_minute cut_X7_minute K (n + 1) 79 L st S = (O_icmp_eq 97) (nx cod_X7_minute cut_X7_minute K n) 79 L st S) ∧
  (∀ (K : Kt QT) (n : Nat) (L : xL) (st : List Value) (S : QT), nx cod_X7_minute cut_X7_minute K (n + 1) 82 L st S = (O_aload 0 1) (nx cod_X7_minute cut_X7_minute K n) 82 L st S) ∧
  (∀ (K : Kt QT) (n : Nat) (L : xL) (st : List Value) (S : QT), nx cod_X7_minute cut_X7_minute K (n + 1) 83 L st S = (O_aload 0 1) (nx cod_X7_minute cut_X7_minute K n) 83 L st S) ∧
  (∀ (K : Kt QT) (n : Nat) (L : xL) (st : List Value) (S : QT), nx cod_X7_minute cut_X7_minute K (n + 1) 84 L st S = (O_int 0 1) (nx cod_X7_minute cut_X7_minute K n) 84 L st S) ∧
  (∀ (K : Kt QT) (n : Nat) (L : xL) (st : List Value) (S : QT), nx cod_X7_minute cut_X7_minute K (n + 1) 85 L st S = (O_callV 1 0 (fun S => S) (fun _ S' => S') sp_X7_ready) (nx cod_X7_minute cut_X7_minute K n) 85 L st S) ∧
  (∀ (K : Kt QT) (n : Nat) (L : xL) (st : List Value) (S : QT), nx cod_X7_minute cut_X7_minute K (n + 1) 88 L st S = (O_callV 1 0 (fun S => S) (fun _ S' => S') sp_X7_start) (nx cod_X7_minute cut_X7_minute K n) 88 L st S) ∧
  (∀ (K : Kt QT) (n : Nat) (L : xL) (st : List Value) (S : QT), nx cod_X7_minute cut_X7_minute K (n + 1) 91 L st S = (O_aload 0 1) (nx cod_X7_minute cut_X7_minute K n) 91 L st S) ∧
  (∀ (K : Kt QT) (n : Nat) (L : xL) (st : List Value) (S : QT), nx cod_X7_minute cut_X7_minute K (n + 1) 92 L st S = (O_int 3 1) (nx cod_X7_minute cut_X7_minute K n) 92 L st S) ∧
  (∀ (K : Kt QT) (n : Nat) (L : xL) (st : List Value) (S : QT), nx cod_X7_minute cut_X7_minute K (n + 1) 93 L st S = (O_int (-1) 1) (nx cod_X7_minute cut_X7_minute K n) 93 L st S) ∧
  (∀ (K : Kt QT) (n : Nat) (L : xL) (st : List Value) (S : QT), nx cod_X7_minute cut_X7_minute K (n + 1) 94 L st S = (O_callV 2 0 (fun S => S) (fun _ S' => S') spa_X7_event) (nx cod_X7_minute cut_X7_minute K n) 94 L st S) ∧
  (∀ (K : Kt QT) (n : Nat) (L : xL) (st : List Value) (S : QT), nx cod_X7_minute cut_X7_minute K (n + 1) 97 L st S = K 97 L st S) ∧
  (∀ (K : Kt QT) (n : Nat) (L : xL) (st : List Value) (S : QT), nx1 cod_X7_minute cut_X7_minute K n 97 L st S = (O_aload 0 1) (nx cod_X7_minute cut_X7_minute K n) 97 L st S) ∧
  (∀ (K : Kt QT) (n : Nat) (L : xL) (st : List Value) (S : QT), nx cod_X7_minute cut_X7_minute K (n + 1) 98 L st S = (O_callV 0 0 (fun S => S) (fun _ S' => S') sp_X7_countAll) (nx cod_X7_minute cut_X7_minute K n) 98 L st S) ∧
  (∀ (K : Kt QT) (n : Nat) (L : xL) (st : List Value) (S : QT), nx cod_X7_minute cut_X7_minute K (n + 1) 101 L st S = (O_aload 0 1) (nx cod_X7_minute cut_X7_minute K n) 101 L st S) ∧
  (∀ (K : Kt QT) (n : Nat) (L : xL) (st : List Value) (S : QT), nx cod_X7_minute cut_X7_minute K (n + 1) 102 L st S = (O_callV 0 0 (fun S => S) (fun _ S' => S') sp_X7_cascade) (nx cod_X7_minute cut_X7_minute K n) 102 L st S) ∧
  (∀ (K : Kt QT) (n : Nat) (L : xL) (st : List Value) (S : QT), nx cod_X7_minute cut_X7_minute K (n + 1) 105 L st S = (O_aload 0 1) (nx cod_X7_minute cut_X7_minute K n) 105 L st S) ∧
  (∀ (K : Kt QT) (n : Nat) (L : xL) (st : List Value) (S : QT), nx cod_X7_minute cut_X7_minute K (n + 1) 106 L st S = (O_callV 0 0 (fun S => S) (fun _ S' => S') sp_X7_rotate) (nx cod_X7_minute cut_X7_minute K n) 106 L st S) ∧
  (∀ (K : Kt QT) (n : Nat) (L : xL) (st : List Value) (S : QT), nx cod_X7_minute cut_X7_minute K (n + 1) 109 L st S = (O_vret) (nx cod_X7_minute cut_X7_minute K n) 109 L st S) ∧
  (∀ (K : Kt QT) (n : Nat) (L : xL) (st : List Value) (S : QT), nx cod_X7_minute cut_X7_minute K (n + 1) 100000 L st S = K 100000 L st S) := by
  repeat' apply And.intro
  all_goals (intros; rfl)
set_option maxRecDepth 100000 in
theorem mk_X7_minute {P P' : QT} {r : Option Value}  (body : ∀ E : En, CodOk E aW cod_X7_minute → Gd E aW 100000 [] r.toList P' → Gd E aW 0 [some (.ref 0)] [] P) : Con yX7_minute cX7_minute 1 none 6 aW [.ref 0] P r P' :=
  Con.of (by decide) ((aW_len P').trans (aW_len P).symm) rfl (Nat.le_of_ble_eq_true rfl) (fun E F G hr => body E (okc_X7_minute F G) hr)
set_option maxRecDepth 10000 in
theorem con_X7_minute (S : ST) (M : MT) (fl : Bool)  (hp : S.inv 17 ∧ fl = false) : Con yX7_minute cX7_minute 1 none 6 aW [.ref 0] (S, M, fl) (none) ((S.minute, M.saw S.minute, false)) := by
  refine mk_X7_minute (fun E C hr => ?_)
  obtain ⟨hi, rfl⟩ := hp
  have hr : Gd E aW 100000 [] [] (S.minute, M, true) := Gd_same (saw_w S.minute M).symm hr
  have ht := aW_tick (n := 16) hi M
  have i1 : S.tick.inv 16 := ST.tick_inv hi
  have i2 : S.tick.water.inv 16 := ST.water_inv i1
  have i3 : S.tick.water.night.inv 15 := ST.night_inv i2
  have i4 : S.first.inv 7 := ST.watchL_inv i3
  have j1 := ST.inv_le i1 (m := 1) (by omega)
  have j2 := ST.inv_le i2 (m := 1) (by omega)
  have j3 := ST.inv_le i3 (m := 8) (by omega)
  have hz := hi.2.1
  have e1 : (S.sTime (S.time + 1)).sZ (S.Z.keep ((S.time + 1) % 1440)) = S.tick := rfl
  have e2 : S.tick.water.night.watchL = S.first := rfl
  have hm : S.minute = if ¬ S.first.dry = 0 then S.first.anew else S.first.second := rfl
  have hd := dry_b i4.2.2.2.1
  by_cases c : S.first.dry = 1
  · rw [hm, if_pos (by rw [hd]; exact c)] at hr
    clear i1 i2 i3 i4 hi hm hd
    (refine nx_ok C (cuts := cut_X7_minute) 1000 _ _ _ _ ?_; simp only [w_X7_minute, ops_eq, xst_eq, call_eq, oK_eq, Option.toList_some, Option.toList_none, List.cons_append, List.nil_append, List.length_cons, List.length_nil, true_and, and_true, Nat.reduceAdd, aW_F, aW_A, aW_P, aW_w, abs_eq, O_asti_eq, v170, cl_eq, ST_id, MT_gs, ST_gs, PT_gs, ZT_gs, NT_gs, ET_gs, se_X7_programmes, se_X7_water, se_X7_night, se_X7_dryness, se_X7_beginAnew, se_X7_regulate, se_X7_running, se_X7_setting, se_X7_ready, se_X7_start, sea_X7_event, se_X7_countAll, se_X7_cascade, se_X7_rotate, ht, hz, e1, e2, j1, j2, j3, c])
    ((repeat' (with_reducible first | apply And.intro | intro _)) <;> first | (with_reducible assumption) | (with_reducible exact Nat.zero_le _) | exact absurd trivial ‹¬True› | (simp_all [ST_id, MT_gs, ST_gs, PT_gs, ZT_gs, NT_gs, ET_gs]; done) | assumption | simp_all)
  · rw [hm, if_neg (by rw [hd]; exact c)] at hr
    have hsec : S.first.second = S.first.adjust.wake.cnt.cascade.rotate := rfl
    rw [hsec] at hr
    have iA := ST.adjust_inv i4
    have hF : S.first.P.inv ∧ setOk S.first.settings := ⟨i4.1, i4.2.2.2.2.1⟩
    have h97 : Gd E aW 97 [some (.ref 0)] [] (S.first.adjust.wake, M, true) := by
      have iW := ST.wake_inv (n := 5) iA
      clear i1 i2 i3 i4 hi hm hd hsec j1 j2 j3 e1 e2 hz ht iA hF c
      generalize S.first.adjust.wake = W at *
      have iC : W.cnt.inv 5 := ST.cnt_inv iW
      have f1 : ¬ W.cnt.toStop < W.cnt.settings 6 → 0 < W.cnt.P.running := fun z => by
        have e : W.cnt.toStop = if W.gStop = true then W.toStop + 1 else 0 := rfl
        by_cases g : W.gStop = true
        · exact (of_decide_eq_true g).1
        · rw [if_neg g] at e
          rw [e] at z
          exact absurd (rng_lt iC.2.2.2.2.1.2.2.1 (by decide)) z
      have f2 : ¬ W.cnt.toSleep < W.cnt.settings 8 → ¬ W.cnt.P.vrb = -1 := fun z => by
        have e : W.cnt.toSleep = if W.gSleep = true then W.toSleep + 1 else 0 := rfl
        by_cases g : W.gSleep = true
        · have g2 := (of_decide_eq_true g).2.1
          unfold PT.vAt at g2
          simp only [Bool.and_eq_true] at g2
          intro q
          have := (PT.vok_has iC.1).mpr q
          have h3 : W.cnt.P = W.P := rfl
          rw [h3] at this
          rw [this] at g2
          exact absurd g2.1 (by decide)
        · rw [if_neg g] at e
          rw [e] at z
          exact absurd (rng_lt iC.2.2.2.2.1.2.2.2.1 (by decide)) z
      have iC2 := ST.inv_le iC (m := 2) (by omega)
      have iD := ST.cascade_inv (n := 3) iC
      have hWP := iW.1
      clear iW iC
      (refine nx1_ok C cut_X7_minute 1000 ?_; simp only [w_X7_minute, ops_eq, xst_eq, call_eq, oK_eq, Option.toList_some, Option.toList_none, List.cons_append, List.nil_append, List.length_cons, List.length_nil, true_and, and_true, Nat.reduceAdd, aW_F, aW_A, aW_P, aW_w, abs_eq, O_asti_eq, v170, cl_eq, ST_id, MT_gs, ST_gs, PT_gs, ZT_gs, NT_gs, ET_gs, se_X7_programmes, se_X7_water, se_X7_night, se_X7_dryness, se_X7_beginAnew, se_X7_regulate, se_X7_running, se_X7_setting, se_X7_ready, se_X7_start, sea_X7_event, se_X7_countAll, se_X7_cascade, se_X7_rotate, hWP, iC2, iD, f1, f2])
      ((repeat' (with_reducible first | apply And.intro | intro _)) <;> first | (with_reducible assumption) | (with_reducible exact Nat.zero_le _) | exact absurd trivial ‹¬True› | (simp_all [ST_id, MT_gs, ST_gs, PT_gs, ZT_gs, NT_gs, ET_gs]; done) | assumption | simp_all)
    have hw : S.first.adjust.wake = if 0 < S.first.adjust.P.running ∨ ¬ S.first.adjust.pressure < S.first.adjust.settings 0 - S.first.adjust.settings 9 ∨ oI (S.first.adjust.P.inOrd 0) = -1 then S.first.adjust else (S.first.adjust.start (oI (S.first.adjust.P.inOrd 0)) (S.first.adjust.settings 4)).event 3 (-1) := rfl
    have hA : ∀ A : ST, A.inv 7 → Gd E aW 97 [some (.ref 0)] [] ((if 0 < A.P.running ∨ ¬ A.pressure < A.settings 0 - A.settings 9 ∨ oI (A.P.inOrd 0) = -1 then A else (A.start (oI (A.P.inOrd 0)) (A.settings 4)).event 3 (-1)), M, true) → Gd E aW 45 [some (.ref 0)] [] (A, M, true) := by
      intro A iA hh
      clear i1 i2 i3 i4 hi hm hd hsec j1 j2 j3 e1 e2 hz ht hF c hr h97 hw
      have hP := iA.1
      have ho := iA.1.1
      have hrun : (A.P.running = 0) ↔ ¬ 0 < A.P.running := by
        rw [(stop_facts hP).1]
        have hn := ho.2
        have hub := cN_ub A.P.run A.P.n
        rw [show (0 : Int32) = nI 0 from rfl, nI_eq (by omega) (by omega), nI_ltI (by omega) (by omega)]
        omega
      by_cases d1 : A.P.running = 0
      · by_cases d2 : A.pressure < A.settings 0 - A.settings 9
        · by_cases d3 : oI (A.P.inOrd 0) = -1
          · rw [if_pos (Or.inr (Or.inr d3))] at hh
            clear hrun iA
            (refine nx1_ok C cut_X7_minute 1000 ?_; simp only [w_X7_minute, ops_eq, xst_eq, call_eq, oK_eq, Option.toList_some, Option.toList_none, List.cons_append, List.nil_append, List.length_cons, List.length_nil, true_and, and_true, Nat.reduceAdd, aW_F, aW_A, aW_P, aW_w, abs_eq, O_asti_eq, v170, cl_eq, ST_id, MT_gs, ST_gs, PT_gs, ZT_gs, NT_gs, ET_gs, se_X7_programmes, se_X7_water, se_X7_night, se_X7_dryness, se_X7_beginAnew, se_X7_regulate, se_X7_running, se_X7_setting, se_X7_ready, se_X7_start, sea_X7_event, se_X7_countAll, se_X7_cascade, se_X7_rotate, v19_eq, ho, hP, d1, d2, d3])
            ((repeat' (with_reducible first | apply And.intro | intro _)) <;> first | (with_reducible assumption) | (with_reducible exact Nat.zero_le _) | exact absurd trivial ‹¬True› | (simp_all [ST_id, MT_gs, ST_gs, PT_gs, ZT_gs, NT_gs, ET_gs]; done) | assumption | simp_all)
          · rw [if_neg (fun z => z.elim (hrun.mp d1) (fun z => z.elim (fun z => z d2) d3))] at hh
            obtain ⟨i, e⟩ := oI_some d3
            obtain ⟨hin, hrd⟩ := PT.inOrd_ok e
            have hA1 := ST.inv_le iA (m := 1) (by omega)
            have hb : A.P.has (oI (A.P.inOrd 0)) = true := by rw [e]; exact PT.n_has ho hin
            have hy : A.P.rdy (oI (A.P.inOrd 0)).toNatClampNeg = true := by
              rw [e]
              show A.P.rdy (nI i).toNatClampNeg = true
              rw [(ixs ho hin).2.1]
              exact hrd
            have hE := ST.inv_rm (n := 5) (ST.startO_inv (n := 6) iA d3)
            clear hrun iA e hin hrd
            (refine nx1_ok C cut_X7_minute 1000 ?_; simp only [w_X7_minute, ops_eq, xst_eq, call_eq, oK_eq, Option.toList_some, Option.toList_none, List.cons_append, List.nil_append, List.length_cons, List.length_nil, true_and, and_true, Nat.reduceAdd, aW_F, aW_A, aW_P, aW_w, abs_eq, O_asti_eq, v170, cl_eq, ST_id, MT_gs, ST_gs, PT_gs, ZT_gs, NT_gs, ET_gs, se_X7_programmes, se_X7_water, se_X7_night, se_X7_dryness, se_X7_beginAnew, se_X7_regulate, se_X7_running, se_X7_setting, se_X7_ready, se_X7_start, sea_X7_event, se_X7_countAll, se_X7_cascade, se_X7_rotate, ev_t, v19_eq, v8_eq, ho, hP, hA1, hb, hy, hE, d1, d2, d3])
            ((repeat' (with_reducible first | apply And.intro | intro _)) <;> first | (with_reducible assumption) | (with_reducible exact Nat.zero_le _) | exact absurd trivial ‹¬True› | (simp_all [ST_id, MT_gs, ST_gs, PT_gs, ZT_gs, NT_gs, ET_gs]; done) | assumption | simp_all)
        · rw [if_pos (Or.inr (Or.inl d2))] at hh
          clear hrun iA
          (refine nx1_ok C cut_X7_minute 1000 ?_; simp only [w_X7_minute, ops_eq, xst_eq, call_eq, oK_eq, Option.toList_some, Option.toList_none, List.cons_append, List.nil_append, List.length_cons, List.length_nil, true_and, and_true, Nat.reduceAdd, aW_F, aW_A, aW_P, aW_w, abs_eq, O_asti_eq, v170, cl_eq, ST_id, MT_gs, ST_gs, PT_gs, ZT_gs, NT_gs, ET_gs, se_X7_programmes, se_X7_water, se_X7_night, se_X7_dryness, se_X7_beginAnew, se_X7_regulate, se_X7_running, se_X7_setting, se_X7_ready, se_X7_start, sea_X7_event, se_X7_countAll, se_X7_cascade, se_X7_rotate, v19_eq, ho, hP, d1, d2])
          ((repeat' (with_reducible first | apply And.intro | intro _)) <;> first | (with_reducible assumption) | (with_reducible exact Nat.zero_le _) | exact absurd trivial ‹¬True› | (simp_all [ST_id, MT_gs, ST_gs, PT_gs, ZT_gs, NT_gs, ET_gs]; done) | assumption | simp_all)
      · rw [if_pos (Or.inl (by by_cases z : 0 < A.P.running; exact z; exact absurd (hrun.mpr z) d1))] at hh
        clear hrun iA
        (refine nx1_ok C cut_X7_minute 1000 ?_; simp only [w_X7_minute, ops_eq, xst_eq, call_eq, oK_eq, Option.toList_some, Option.toList_none, List.cons_append, List.nil_append, List.length_cons, List.length_nil, true_and, and_true, Nat.reduceAdd, aW_F, aW_A, aW_P, aW_w, abs_eq, O_asti_eq, v170, cl_eq, ST_id, MT_gs, ST_gs, PT_gs, ZT_gs, NT_gs, ET_gs, se_X7_programmes, se_X7_water, se_X7_night, se_X7_dryness, se_X7_beginAnew, se_X7_regulate, se_X7_running, se_X7_setting, se_X7_ready, se_X7_start, sea_X7_event, se_X7_countAll, se_X7_cascade, se_X7_rotate, v19_eq, ho, hP, d1])
        ((repeat' (with_reducible first | apply And.intro | intro _)) <;> first | (with_reducible assumption) | (with_reducible exact Nat.zero_le _) | exact absurd trivial ‹¬True› | (simp_all [ST_id, MT_gs, ST_gs, PT_gs, ZT_gs, NT_gs, ET_gs]; done) | assumption | simp_all)
    rw [hw] at h97
    have h45 := hA _ iA h97
    clear i1 i2 i3 i4 hi hm hd hsec iA hA hw h97 hr
    (refine nx_ok C (cuts := cut_X7_minute) 1000 _ _ _ _ ?_; simp only [w_X7_minute, ops_eq, xst_eq, call_eq, oK_eq, Option.toList_some, Option.toList_none, List.cons_append, List.nil_append, List.length_cons, List.length_nil, true_and, and_true, Nat.reduceAdd, aW_F, aW_A, aW_P, aW_w, abs_eq, O_asti_eq, v170, cl_eq, ST_id, MT_gs, ST_gs, PT_gs, ZT_gs, NT_gs, ET_gs, se_X7_programmes, se_X7_water, se_X7_night, se_X7_dryness, se_X7_beginAnew, se_X7_regulate, se_X7_running, se_X7_setting, se_X7_ready, se_X7_start, sea_X7_event, se_X7_countAll, se_X7_cascade, se_X7_rotate, ht, hz, e1, e2, j1, j2, j3, hF, c])
    ((repeat' (with_reducible first | apply And.intro | intro _)) <;> first | (with_reducible assumption) | (with_reducible exact Nat.zero_le _) | exact absurd trivial ‹¬True› | (simp_all [ST_id, MT_gs, ST_gs, PT_gs, ZT_gs, NT_gs, ET_gs]; done) | assumption | simp_all)
def spc_X7_minute (S : ST) (M : MT) (fl : Bool)  (K : Option Value → QT → Prop) : Prop := (S.inv 17 ∧ fl = false) ∧ K (none) ((S.minute, M.saw S.minute, false))
def sp_X7_minute : Sp QT := fun av q K => match av with
  | [.ref 0] => spc_X7_minute q.1 q.2.1 q.2.2  K
  | _ => False
theorem se_X7_minute (S : ST) (M : MT) (fl : Bool)  (K : Option Value → QT → Prop) : sp_X7_minute [.ref 0] (S, M, fl) K = ((S.inv 17 ∧ fl = false) ∧ K (none) ((S.minute, M.saw S.minute, false))) := rfl
theorem spok_X7_minute : SpOk yX7_minute cX7_minute 1 none 6 aW sp_X7_minute := by
  intro av q K h
  unfold sp_X7_minute at h
  split at h
  · refine ⟨_, _, ?_, con_X7_minute q.1 q.2.1 q.2.2  h.1, h.2⟩; trivial
  · exact h.elim
