/-! ===== the reference: pumps start and stop ===== -/
def MT.saveA (M : MT) (S : ST) : MT := if M.k < 4 then (M.sSaved (cp (170 * M.k) 0 (abs S) M.saved 170)).sSavedMany (nI (M.k + 1)) else (M.sSaved (cp 510 0 (abs S) (sft M.saved 510) 170)).sSavedMany 4
theorem cona_X7_save (S : ST) (M : MT) (fl : Bool)  (hp : isN M.savedMany M.k 4) : Con yX7_save cX7_save 2 none 0 aW [.ref 0] (S, M, fl) (none) ((S, M.saveA S, fl)) := by
  refine (con_X7_save ((M.sAll (abs S)).sSeen (sn (S, M, fl))) hp).re (toW' := aW) (Q := (S, M, fl)) (Q' := (S, M.saveA S, fl)) rfl ?_
  unfold MT.save MT.saveA
  by_cases c : M.k < 4
  · rw [if_pos c, if_pos (show ((M.sAll (abs S)).sSeen (sn (S, M, fl))).k < 4 from c)]
    rfl
  · rw [if_neg c, if_neg (show ¬ ((M.sAll (abs S)).sSeen (sn (S, M, fl))).k < 4 from c)]
    rfl
def spca_X7_save (S : ST) (M : MT) (fl : Bool)  (K : Option Value → QT → Prop) : Prop := (isN M.savedMany M.k 4) ∧ K (none) ((S, M.saveA S, fl))
def spa_X7_save : Sp QT := fun av q K => match av with
  | [.ref 0] => spca_X7_save q.1 q.2.1 q.2.2  K
  | _ => False
theorem sea_X7_save (S : ST) (M : MT) (fl : Bool)  (K : Option Value → QT → Prop) : spa_X7_save [.ref 0] (S, M, fl) K = ((isN M.savedMany M.k 4) ∧ K (none) ((S, M.saveA S, fl))) := rfl
theorem spoka_X7_save : SpOk yX7_save cX7_save 2 none 0 aW spa_X7_save := by
  intro av q K h
  unfold spa_X7_save at h
  split at h
  · refine ⟨_, _, ?_, cona_X7_save q.1 q.2.1 q.2.2  h.1, h.2⟩; trivial
  · exact h.elim
def MT.lay (M : MT) (S : ST) : MT := M.sAside (cp 0 0 (abs S) M.aside 170)
theorem cona_X7_layAside (S : ST) (M : MT) (fl : Bool)  : Con yX7_layAside cX7_layAside 2 none 0 aW [.ref 0] (S, M, fl) (none) ((S, M.lay S, fl)) := by
  exact (con_X7_layAside ((M.sAll (abs S)).sSeen (sn (S, M, fl)))).re (toW' := aW) (Q := (S, M, fl)) (Q' := (S, M.lay S, fl)) rfl rfl
def spca_X7_layAside (S : ST) (M : MT) (fl : Bool)  (K : Option Value → QT → Prop) : Prop := K (none) ((S, M.lay S, fl))
def spa_X7_layAside : Sp QT := fun av q K => match av with
  | [.ref 0] => spca_X7_layAside q.1 q.2.1 q.2.2  K
  | _ => False
theorem sea_X7_layAside (S : ST) (M : MT) (fl : Bool)  (K : Option Value → QT → Prop) : spa_X7_layAside [.ref 0] (S, M, fl) K = (K (none) ((S, M.lay S, fl))) := rfl
theorem spoka_X7_layAside : SpOk yX7_layAside cX7_layAside 2 none 0 aW spa_X7_layAside := by
  intro av q K h
  unfold spa_X7_layAside at h
  split at h
  · refine ⟨_, _, ?_, cona_X7_layAside q.1 q.2.1 q.2.2 , h⟩; trivial
  · exact h.elim
theorem ev_t : ∀ (M : MT) (k : Int32), M.ev true k = M := fun _ _ => rfl
def PT.bgn (S : PT) (p v b : Int32) : PT := if b = 0 then ((S.sSpeeds (upd S.speeds p.toNatClampNeg v)).sSince (upd S.since p.toNatClampNeg 0)).sStarts (upd S.starts p.toNatClampNeg (S.starts p.toNatClampNeg + 1)) else (((S.sSpeeds (upd S.speeds p.toNatClampNeg v)).sSince (upd S.since p.toNatClampNeg 0)).sStarts (upd S.starts p.toNatClampNeg (S.starts p.toNatClampNeg + 1))).sVrb p
theorem bgn_v : ∀ (S : PT) (a b c : Nat → Int32), (((S.sSpeeds a).sSince b).sStarts c).sVrb S.vrb = ((S.sSpeeds a).sSince b).sStarts c := fun _ _ _ _ => rfl
def cod_X7_begins : List (Nat × Op QT) := [(0, O_aload 0 1), (1, O_iload 1 1), (2, O_int 4 1), (3, O_iload 2 1), (4, O_callV 3 0 (fun S => S) (fun _ S' => S') sp_X7_put), (7, O_aload 0 1), (8, O_iload 1 1), (9, O_int 6 2), (11, O_int 0 1), (12, O_callV 3 0 (fun S => S) (fun _ S' => S') sp_X7_put), (15, O_aload 0 1), (16, O_iload 1 1), (17, O_int 7 2), (19, O_aload 0 1), (20, O_iload 1 1), (21, O_int 7 2), (23, O_callV 2 0 (fun S => S) (fun _ S' => S') sp_X7_of), (26, O_int 1 1), (27, O_iadd), (28, O_callV 3 0 (fun S => S) (fun _ S' => S') sp_X7_put), (31, O_aload 0 1), (32, O_getf aW 7 0), (35, O_int 4 1), (36, O_iload 3 1), (37, O_if_eq 44), (40, O_iload 1 1), (41, O_goto 50), (44, O_aload 0 1), (45, O_getf aW 7 0), (48, O_int 4 1), (49, O_ald aW 0), (50, O_asti aW aW_wi), (51, O_aload 0 1), (52, O_int 0 1), (53, O_iload 1 1), (54, O_callV 2 0 (fun S => S) (fun _ S' => S') spa_X7_event), (57, O_vret)]
abbrev cut_X7_begins : List Nat := []
set_option maxRecDepth 100000 in
theorem okc_X7_begins {E : En} (F : Fx E RX7 cX7_begins 4 1) (G : Fr E none) : CodOk E aW cod_X7_begins := by
  unfold CodOk cod_X7_begins
  refine List.forall_mem_cons.mpr ⟨ok_aload_n F dX7_begins_0 rfl (by decide), ?_⟩
  refine List.forall_mem_cons.mpr ⟨ok_iload_n F dX7_begins_1 rfl (by decide), ?_⟩
  refine List.forall_mem_cons.mpr ⟨ok_iconst F dX7_begins_2 (by decide) (by decide), ?_⟩
  refine List.forall_mem_cons.mpr ⟨ok_iload_n F dX7_begins_3 rfl (by decide), ?_⟩
  refine List.forall_mem_cons.mpr ⟨ok_callV F spok_X7_put (ln_id aW) rcv_aW (by decide +kernel) (by decide) dX7_begins_4 (by decide), ?_⟩
  refine List.forall_mem_cons.mpr ⟨ok_aload_n F dX7_begins_7 rfl (by decide), ?_⟩
  refine List.forall_mem_cons.mpr ⟨ok_iload_n F dX7_begins_8 rfl (by decide), ?_⟩
  refine List.forall_mem_cons.mpr ⟨ok_bipush F dX7_begins_9 (by decide) (by decide), ?_⟩
  refine List.forall_mem_cons.mpr ⟨ok_iconst F dX7_begins_11 (by decide) (by decide), ?_⟩
  refine List.forall_mem_cons.mpr ⟨ok_callV F spok_X7_put (ln_id aW) rcv_aW (by decide +kernel) (by decide) dX7_begins_12 (by decide), ?_⟩
  refine List.forall_mem_cons.mpr ⟨ok_aload_n F dX7_begins_15 rfl (by decide), ?_⟩
  refine List.forall_mem_cons.mpr ⟨ok_iload_n F dX7_begins_16 rfl (by decide), ?_⟩
  refine List.forall_mem_cons.mpr ⟨ok_bipush F dX7_begins_17 (by decide) (by decide), ?_⟩
  refine List.forall_mem_cons.mpr ⟨ok_aload_n F dX7_begins_19 rfl (by decide), ?_⟩
  refine List.forall_mem_cons.mpr ⟨ok_iload_n F dX7_begins_20 rfl (by decide), ?_⟩
  refine List.forall_mem_cons.mpr ⟨ok_bipush F dX7_begins_21 (by decide) (by decide), ?_⟩
  refine List.forall_mem_cons.mpr ⟨ok_callV F spok_X7_of (ln_id aW) rcv_aW (by decide +kernel) (by decide) dX7_begins_23 (by decide), ?_⟩
  refine List.forall_mem_cons.mpr ⟨ok_iconst F dX7_begins_26 (by decide) (by decide), ?_⟩
  refine List.forall_mem_cons.mpr ⟨ok_iadd F dX7_begins_27 (by decide), ?_⟩
  refine List.forall_mem_cons.mpr ⟨ok_callV F spok_X7_put (ln_id aW) rcv_aW (by decide +kernel) (by decide) dX7_begins_28 (by decide), ?_⟩
  refine List.forall_mem_cons.mpr ⟨ok_aload_n F dX7_begins_31 rfl (by decide), ?_⟩
  refine List.forall_mem_cons.mpr ⟨ok_getf F flX7_7 dX7_begins_32 (by decide), ?_⟩
  refine List.forall_mem_cons.mpr ⟨ok_iconst F dX7_begins_35 (by decide) (by decide), ?_⟩
  refine List.forall_mem_cons.mpr ⟨ok_iload_n F dX7_begins_36 rfl (by decide), ?_⟩
  refine List.forall_mem_cons.mpr ⟨ok_if_eq F dX7_begins_37 (by decide) (by decide) (by decide), ?_⟩
  refine List.forall_mem_cons.mpr ⟨ok_iload_n F dX7_begins_40 rfl (by decide), ?_⟩
  refine List.forall_mem_cons.mpr ⟨ok_goto F dX7_begins_41 (by decide) (by decide) (by decide), ?_⟩
  refine List.forall_mem_cons.mpr ⟨ok_aload_n F dX7_begins_44 rfl (by decide), ?_⟩
  refine List.forall_mem_cons.mpr ⟨ok_getf F flX7_7 dX7_begins_45 (by decide), ?_⟩
  refine List.forall_mem_cons.mpr ⟨ok_iconst F dX7_begins_48 (by decide) (by decide), ?_⟩
  refine List.forall_mem_cons.mpr ⟨ok_iald F dX7_begins_49 (by decide), ?_⟩
  refine List.forall_mem_cons.mpr ⟨ok_asti F aW_wok dX7_begins_50 (by decide), ?_⟩
  refine List.forall_mem_cons.mpr ⟨ok_aload_n F dX7_begins_51 rfl (by decide), ?_⟩
  refine List.forall_mem_cons.mpr ⟨ok_iconst F dX7_begins_52 (by decide) (by decide), ?_⟩
  refine List.forall_mem_cons.mpr ⟨ok_iload_n F dX7_begins_53 rfl (by decide), ?_⟩
  refine List.forall_mem_cons.mpr ⟨ok_callV F spoka_X7_event (ln_id aW) rcv_aW (by decide +kernel) (by decide) dX7_begins_54 (by decide), ?_⟩
  refine List.forall_mem_cons.mpr ⟨ok_vret F G dX7_begins_57 (by decide), ?_⟩
  exact fun _ h => absurd h List.not_mem_nil
set_option maxRecDepth 100000 in
theorem w_X7_begins : (∀ (K : Kt QT) (n : Nat) (L : xL) (st : List Value) (S : QT), nx cod_X7_begins cut_X7_begins K (n + 1) 0 L st S = (O_aload 0 1) (nx cod_X7_begins cut_X7_begins K n) 0 L st S) ∧
  (∀ (K : Kt QT) (n : Nat) (L : xL) (st : List Value) (S : QT), nx cod_X7_begins cut_X7_begins K (n + 1) 1 L st S = (O_iload 1 1) (nx cod_X7_begins cut_X7_begins K n) 1 L st S) ∧
  (∀ (K : Kt QT) (n : Nat) (L : xL) (st : List Value) (S : QT), nx cod_X7_begins cut_X7_begins K (n + 1) 2 L st S = (O_int 4 1) (nx cod_X7_begins cut_X7_begins K n) 2 L st S) ∧
  (∀ (K : Kt QT) (n : Nat) (L : xL) (st : List Value) (S : QT), nx cod_X7_begins cut_X7_begins K (n + 1) 3 L st S = (O_iload 2 1) (nx cod_X7_begins cut_X7_begins K n) 3 L st S) ∧
  (∀ (K : Kt QT) (n : Nat) (L : xL) (st : List Value) (S : QT), nx cod_X7_begins cut_X7_begins K (n + 1) 4 L st S = (O_callV 3 0 (fun S => S) (fun _ S' => S') sp_X7_put) (nx cod_X7_begins cut_X7_begins K n) 4 L st S) ∧
  (∀ (K : Kt QT) (n : Nat) (L : xL) (st : List Value) (S : QT), nx cod_X7_begins cut_X7_begins K (n + 1) 7 L st S = (O_aload 0 1) (nx cod_X7_begins cut_X7_begins K n) 7 L st S) ∧
  (∀ (K : Kt QT) (n : Nat) (L : xL) (st : List Value) (S : QT), nx cod_X7_begins cut_X7_begins K (n + 1) 8 L st S = (O_iload 1 1) (nx cod_X7_begins cut_X7_begins K n) 8 L st S) ∧
  (∀ (K : Kt QT) (n : Nat) (L : xL) (st : List Value) (S : QT), nx cod_X7_begins cut_X7_begins K (n + 1) 9 L st S = (O_int 6 2) (nx cod_X7_begins cut_X7_begins K n) 9 L st S) ∧
  (∀ (K : Kt QT) (n : Nat) (L : xL) (st : List Value) (S : QT), nx cod_X7_begins cut_X7_begins K (n + 1) 11 L st S = (O_int 0 1) (nx cod_X7_begins cut_X7_begins K n) 11 L st S) ∧
  (∀ (K : Kt QT) (n : Nat) (L : xL) (st : List Value) (S : QT), nx cod_X7_begins cut_X7_begins K (n + 1) 12 L st S = (O_callV 3 0 (fun S => S) (fun _ S' => S') sp_X7_put) (nx cod_X7_begins cut_X7_begins K n) 12 L st S) ∧
  (∀ (K : Kt QT) (n : Nat) (L : xL) (st : List Value) (S : QT), nx cod_X7_begins cut_X7_begins K (n + 1) 15 L st S = (O_aload 0 1) (nx cod_X7_begins cut_X7_begins K n) 15 L st S) ∧
  (∀ (K : Kt QT) (n : Nat) (L : xL) (st : List Value) (S : QT), nx cod_X7_begins cut_X7_begins K (n + 1) 16 L st S = (O_iload 1 1) (nx cod_X7_begins cut_X7_begins K n) 16 L st S) ∧
  (∀ (K : Kt QT) (n : Nat) (L : xL) (st : List Value) (S : QT), nx cod_X7_begins cut_X7_begins K (n + 1) 17 L st S = (O_int 7 2) (nx cod_X7_begins cut_X7_begins K n) 17 L st S) ∧
  (∀ (K : Kt QT) (n : Nat) (L : xL) (st : List Value) (S : QT), nx cod_X7_begins cut_X7_begins K (n + 1) 19 L st S = (O_aload 0 1) (nx cod_X7_begins cut_X7_begins K n) 19 L st S) ∧
  (∀ (K : Kt QT) (n : Nat) (L : xL) (st : List Value) (S : QT), nx cod_X7_begins cut_X7_begins K (n + 1) 20 L st S = (O_iload 1 1) (nx cod_X7_begins cut_X7_begins K n) 20 L st S) ∧
  (∀ (K : Kt QT) (n : Nat) (L : xL) (st : List Value) (S : QT), nx cod_X7_begins cut_X7_begins K (n + 1) 21 L st S = (O_int 7 2) (nx cod_X7_begins cut_X7_begins K n) 21 L st S) ∧
  (∀ (K : Kt QT) (n : Nat) (L : xL) (st : List Value) (S : QT), nx cod_X7_begins cut_X7_begins K (n + 1) 23 L st S = (O_callV 2 0 (fun S => S) (fun _ S' => S') sp_X7_of) (nx cod_X7_begins cut_X7_begins K n) 23 L st S) ∧
  (∀ (K : Kt QT) (n : Nat) (L : xL) (st : List Value) (S : QT), nx cod_X7_begins cut_X7_begins K (n + 1) 26 L st S = (O_int 1 1) (nx cod_X7_begins cut_X7_begins K n) 26 L st S) ∧
  (∀ (K : Kt QT) (n : Nat) (L : xL) (st : List Value) (S : QT), nx cod_X7_begins cut_X7_begins K (n + 1) 27 L st S = (O_iadd) (nx cod_X7_begins cut_X7_begins K n) 27 L st S) ∧
  (∀ (K : Kt QT) (n : Nat) (L : xL) (st : List Value) (S : QT), nx cod_X7_begins cut_X7_begins K (n + 1) 28 L st S = (O_callV 3 0 (fun S => S) (fun _ S' => S') sp_X7_put) (nx cod_X7_begins cut_X7_begins K n) 28 L st S) ∧
  (∀ (K : Kt QT) (n : Nat) (L : xL) (st : List Value) (S : QT), nx cod_X7_begins cut_X7_begins K (n + 1) 31 L st S = (O_aload 0 1) (nx cod_X7_begins cut_X7_begins K n) 31 L st S) ∧
  (∀ (K : Kt QT) (n : Nat) (L : xL) (st : List Value) (S : QT), nx cod_X7_begins cut_X7_begins K (n + 1) 32 L st S = (O_getf aW 7 0) (nx cod_X7_begins cut_X7_begins K n) 32 L st S) ∧
  (∀ (K : Kt QT) (n : Nat) (L : xL) (st : List Value) (S : QT), nx cod_X7_begins cut_X7_begins K (n + 1) 35 L st S = (O_int 4 1) (nx cod_X7_begins cut_X7_begins K n) 35 L st S) ∧
  (∀ (K : Kt QT) (n : Nat) (L : xL) (st : List Value) (S : QT), nx cod_X7_begins cut_X7_begins K (n + 1) 36 L st S = (O_iload 3 1) (nx cod_X7_begins cut_X7_begins K n) 36 L st S) ∧
  (∀ (K : Kt QT) (n : Nat) (L : xL) (st : List Value) (S : QT), nx cod_X7_begins cut_X7_begins K (n + 1) 37 L st S = (O_if_eq 44) (nx cod_X7_begins cut_X7_begins K n) 37 L st S) ∧
  (∀ (K : Kt QT) (n : Nat) (L : xL) (st : List Value) (S : QT), nx cod_X7_begins cut_X7_begins K (n + 1) 40 L st S = (O_iload 1 1) (nx cod_X7_begins cut_X7_begins K n) 40 L st S) ∧
  (∀ (K : Kt QT) (n : Nat) (L : xL) (st : List Value) (S : QT), nx cod_X7_begins cut_X7_begins K (n + 1) 41 L st S = (O_goto 50) (nx cod_X7_begins cut_X7_begins K n) 41 L st S) ∧
  (∀ (K : Kt QT) (n : Nat) (L : xL) (st : List Value) (S : QT), nx cod_X7_begins cut_X7_begins K (n + 1) 44 L st S = (O_aload 0 1) (nx cod_X7_begins cut_X7_begins K n) 44 L st S) ∧
  (∀ (K : Kt QT) (n : Nat) (L : xL) (st : List Value) (S : QT), nx cod_X7_begins cut_X7_begins K (n + 1) 45 L st S = (O_getf aW 7 0) (nx cod_X7_begins cut_X7_begins K n) 45 L st S) ∧
  (∀ (K : Kt QT) (n : Nat) (L : xL) (st : List Value) (S : QT), nx cod_X7_begins cut_X7_begins K (n + 1) 48 L st S = (O_int 4 1) (nx cod_X7_begins cut_X7_begins K n) 48 L st S) ∧
  (∀ (K : Kt QT) (n : Nat) (L : xL) (st : List Value) (S : QT), nx cod_X7_begins cut_X7_begins K (n + 1) 49 L st S = (O_ald aW 0) (nx cod_X7_begins cut_X7_begins K n) 49 L st S) ∧
  (∀ (K : Kt QT) (n : Nat) (L : xL) (st : List Value) (S : QT), nx cod_X7_begins cut_X7_begins K (n + 1) 50 L st S = (O_asti aW aW_wi) (nx cod_X7_begins cut_X7_begins K n) 50 L st S) ∧
  (∀ (K : Kt QT) (n : Nat) (L : xL) (st : List Value) (S : QT), nx cod_X7_begins cut_X7_begins K (n + 1) 51 L st S = (O_aload 0 1) (nx cod_X7_begins cut_X7_begins K n) 51 L st S) ∧
  (∀ (K : Kt QT) (n : Nat) (L : xL) (st : List Value) (S : QT), nx cod_X7_begins cut_X7_begins K (n + 1) 52 L st S = (O_int 0 1) (nx cod_X7_begins cut_X7_begins K n) 52 L st S) ∧
  (∀ (K : Kt QT) (n : Nat) (L : xL) (st : List Value) (S : QT), nx cod_X7_begins cut_X7_begins K (n + 1) 53 L st S = (O_iload 1 1) (nx cod_X7_begins cut_X7_begins K n) 53 L st S) ∧
  (∀ (K : Kt QT) (n : Nat) (L : xL) (st : List Value) (S : QT), nx cod_X7_begins cut_X7_begins K (n + 1) 54 L st S = (O_callV 2 0 (fun S => S) (fun _ S' => S') spa_X7_event) (nx cod_X7_begins cut_X7_begins K n) 54 L st S) ∧
  (∀ (K : Kt QT) (n : Nat) (L : xL) (st : List Value) (S : QT), nx cod_X7_begins cut_X7_begins K (n + 1) 57 L st S = (O_vret) (nx cod_X7_begins cut_X7_begins K n) 57 L st S) ∧
  (∀ (K : Kt QT) (n : Nat) (L : xL) (st : List Value) (S : QT), nx cod_X7_begins cut_X7_begins K (n + 1) 100000 L st S = K 100000 L st S) := by
  repeat' apply And.intro
  all_goals (intros; rfl)
set_option maxRecDepth 100000 in
theorem mk_X7_begins {P P' : QT} {r : Option Value} {p0 : Int32} {p1 : Int32} {p2 : Int32} (body : ∀ E : En, CodOk E aW cod_X7_begins → Gd E aW 100000 [] r.toList P' → Gd E aW 0 [some (.ref 0), some (.int p0), some (.int p1), some (.int p2)] [] P) : Con yX7_begins cX7_begins 4 none 1 aW [.ref 0, .int p0, .int p1, .int p2] P r P' :=
  Con.of (by decide) ((aW_len P').trans (aW_len P).symm) rfl (Nat.le_of_ble_eq_true rfl) (fun E F G hr => body E (okc_X7_begins F G) hr)
set_option maxRecDepth 10000 in
theorem con_X7_begins (S : ST) (M : MT) (fl : Bool) (p : Int32) (v : Int32) (b : Int32) (hp : vp_in p 6 ∧ S.E.rm) : Con yX7_begins cX7_begins 4 none 1 aW [.ref 0, .int p, .int v, .int b] (S, M, fl) (none) (((S.sP (S.P.bgn p v b)).event 0 p, M.ev fl 0, fl)) := by
  refine mk_X7_begins (fun E C hr => ?_)
  have hv := hp.1
  have hE := hp.2
  clear hp
  by_cases c : b = 0
  · have e : S.P.bgn p v b = ((S.P.sSpeeds (upd S.P.speeds p.toNatClampNeg v)).sSince (upd S.P.since p.toNatClampNeg 0)).sStarts (upd S.P.starts p.toNatClampNeg (S.P.starts p.toNatClampNeg + 1)) := if_pos c
    rw [e] at hr
    (refine nx_ok C (cuts := cut_X7_begins) 1000 _ _ _ _ ?_; simp only [w_X7_begins, ops_eq, xst_eq, call_eq, oK_eq, Option.toList_some, Option.toList_none, List.cons_append, List.nil_append, List.length_cons, List.length_nil, true_and, and_true, Nat.reduceAdd, aW_F, aW_A, aW_P, aW_w, abs_eq, O_asti_eq, v170, cl_eq, ST_id, MT_gs, ST_gs, PT_gs, ZT_gs, NT_gs, ET_gs, se_X7_put, se_X7_of, sea_X7_event, v8_eq, hv, hE, get_eq, put_eq, bgn_v, c])
    ((repeat' (with_reducible first | apply And.intro | intro _)) <;> simp_all [ST_id, MT_gs, ST_gs, PT_gs, ZT_gs, NT_gs, ET_gs])
  · have e : S.P.bgn p v b = (((S.P.sSpeeds (upd S.P.speeds p.toNatClampNeg v)).sSince (upd S.P.since p.toNatClampNeg 0)).sStarts (upd S.P.starts p.toNatClampNeg (S.P.starts p.toNatClampNeg + 1))).sVrb p := if_neg c
    rw [e] at hr
    (refine nx_ok C (cuts := cut_X7_begins) 1000 _ _ _ _ ?_; simp only [w_X7_begins, ops_eq, xst_eq, call_eq, oK_eq, Option.toList_some, Option.toList_none, List.cons_append, List.nil_append, List.length_cons, List.length_nil, true_and, and_true, Nat.reduceAdd, aW_F, aW_A, aW_P, aW_w, abs_eq, O_asti_eq, v170, cl_eq, ST_id, MT_gs, ST_gs, PT_gs, ZT_gs, NT_gs, ET_gs, se_X7_put, se_X7_of, sea_X7_event, v8_eq, hv, hE, get_eq, put_eq, bgn_v, c])
    ((repeat' (with_reducible first | apply And.intro | intro _)) <;> simp_all [ST_id, MT_gs, ST_gs, PT_gs, ZT_gs, NT_gs, ET_gs])
def spc_X7_begins (S : ST) (M : MT) (fl : Bool) (p : Int32) (v : Int32) (b : Int32) (K : Option Value → QT → Prop) : Prop := (vp_in p 6 ∧ S.E.rm) ∧ K (none) (((S.sP (S.P.bgn p v b)).event 0 p, M.ev fl 0, fl))
def sp_X7_begins : Sp QT := fun av q K => match av with
  | [.ref 0, .int p, .int v, .int b] => spc_X7_begins q.1 q.2.1 q.2.2 p v b K
  | _ => False
theorem se_X7_begins (S : ST) (M : MT) (fl : Bool) (p : Int32) (v : Int32) (b : Int32) (K : Option Value → QT → Prop) : sp_X7_begins [.ref 0, .int p, .int v, .int b] (S, M, fl) K = ((vp_in p 6 ∧ S.E.rm) ∧ K (none) (((S.sP (S.P.bgn p v b)).event 0 p, M.ev fl 0, fl))) := rfl
theorem spok_X7_begins : SpOk yX7_begins cX7_begins 4 none 1 aW sp_X7_begins := by
  intro av q K h
  unfold sp_X7_begins at h
  split at h
  · rename_i p v b; refine ⟨_, _, ?_, con_X7_begins q.1 q.2.1 q.2.2 p v b h.1, h.2⟩; trivial
  · exact h.elim
theorem upd_upd (f : Nat → Int32) (k : Nat) (x y : Int32) : upd (upd f k x) k y = upd f k y := by
  funext j
  unfold upd
  split <;> rfl
theorem upd_id (f : Nat → Int32) (k : Nat) : upd f k (f k) = f := by
  funext j
  unfold upd
  split
  · rename_i q; rw [q]
  · rfl
theorem PT.start_bgn {S : PT} (h : S.inv) {p : Int32} (hh : S.has p = true) (hy : S.rdy p.toNatClampNeg = true) (v : Int32) : (S.kinds p.toNatClampNeg = 0 → S.start p v = S.bgn p 1000 0) ∧ (¬ S.kinds p.toNatClampNeg = 0 → S.vrb = -1 → S.start p v = S.bgn p v 1) ∧ (¬ S.kinds p.toNatClampNeg = 0 → ¬ S.vrb = -1 → S.start p v = (S.sSpeeds (upd S.speeds S.vrb.toNatClampNeg 1000)).bgn p v 1) := by
  obtain ⟨i, hi, e1, e2⟩ := PT.has_n h.1 hh
  rw [e2] at hy ⊢
  have hs : upd S.since i 0 = S.since := by
    have := (h.2.1 i hi).2.2.2.2 (by simp only [PT.rdy, decide_eq_true_eq] at hy; exact hy.2)
    conv => lhs; rw [← this]
    exact upd_id _ _
  have hst : ∀ T : PT, S.start p v = T ↔ (if S.kinds i = 0 then (S.sStarts (upd S.starts i (S.starts i + 1))).sSpeeds (upd S.speeds i 1000) else (if S.has S.vrb = true then ((((S.sStarts (upd S.starts i (S.starts i + 1))).sSpeeds (upd S.speeds i 1000)).sSpeeds (upd (upd S.speeds i 1000) S.vrb.toNatClampNeg 1000)).sVrb p).sSpeeds (upd (upd (upd S.speeds i 1000) S.vrb.toNatClampNeg 1000) i v) else (((S.sStarts (upd S.starts i (S.starts i + 1))).sSpeeds (upd S.speeds i 1000)).sVrb p).sSpeeds (upd (upd S.speeds i 1000) i v))) = T := fun T => by
    unfold PT.start
    rw [if_neg (by rw [hh]; decide), e2]
    by_cases c : S.kinds i = 0
    · simp only [if_pos c]
    · simp only [if_neg c]
      by_cases d : S.has S.vrb = true
      · simp only [if_pos d]; exact Iff.rfl
      · simp only [if_neg d]; exact Iff.rfl
  have hvb := PT.vok_has h
  refine ⟨fun c => ?_, fun c d => ?_, fun c d => ?_⟩
  · rw [hst, if_pos c]
    unfold PT.bgn
    rw [if_pos rfl, e2, hs]
    rfl
  · rw [hst, if_neg c, if_neg (by rw [hvb.mpr d]; decide)]
    unfold PT.bgn
    rw [if_neg (by decide), e2, hs, upd_upd]
    rfl
  · have d2 : S.has S.vrb = true := by
      cases z : S.has S.vrb
      · exact absurd (hvb.mp z) d
      · rfl
    rw [hst, if_neg c, if_pos d2]
    unfold PT.bgn
    have hs' : upd (S.sSpeeds (upd S.speeds S.vrb.toNatClampNeg 1000)).since i 0 = S.since := hs
    rw [if_neg (by decide), e2, hs']
    have hu : upd (upd (upd S.speeds i 1000) S.vrb.toNatClampNeg 1000) i v = upd (upd S.speeds S.vrb.toNatClampNeg 1000) i v := by
      funext j
      unfold upd
      (repeat' split) <;> rfl
    rw [hu]
    rfl
def cod_X7_start : List (Nat × Op QT) := [(0, O_aload 0 1), (1, O_iload 1 1), (2, O_int 0 1), (3, O_callV 2 0 (fun S => S) (fun _ S' => S') sp_X7_of), (6, O_if_ne 19), (9, O_aload 0 1), (10, O_iload 1 1), (11, O_int 1000 3), (14, O_int 0 1), (15, O_callV 3 0 (fun S => S) (fun _ S' => S') sp_X7_begins), (18, O_vret), (19, O_aload 0 1), (20, O_getf aW 7 0), (23, O_int 4 1), (24, O_ald aW 0), (25, O_int (-1) 1), (26, O_icmp_eq 43), (29, O_aload 0 1), (30, O_aload 0 1), (31, O_getf aW 7 0), (34, O_int 4 1), (35, O_ald aW 0), (36, O_int 4 1), (37, O_int 1000 3), (40, O_callV 3 0 (fun S => S) (fun _ S' => S') sp_X7_put), (43, O_aload 0 1), (44, O_iload 1 1), (45, O_aload 0 1), (46, O_int 4 1), (47, O_callV 1 0 (fun S => S) (fun _ S' => S') sp_X7_setting), (50, O_int 1 1), (51, O_callV 3 0 (fun S => S) (fun _ S' => S') sp_X7_begins), (54, O_vret)]
abbrev cut_X7_start : List Nat := []
set_option maxRecDepth 100000 in
theorem okc_X7_start {E : En} (F : Fx E RX7 cX7_start 2 2) (G : Fr E none) : CodOk E aW cod_X7_start := by
  unfold CodOk cod_X7_start
  refine List.forall_mem_cons.mpr ⟨ok_aload_n F dX7_start_0 rfl (by decide), ?_⟩
  refine List.forall_mem_cons.mpr ⟨ok_iload_n F dX7_start_1 rfl (by decide), ?_⟩
  refine List.forall_mem_cons.mpr ⟨ok_iconst F dX7_start_2 (by decide) (by decide), ?_⟩
  refine List.forall_mem_cons.mpr ⟨ok_callV F spok_X7_of (ln_id aW) rcv_aW (by decide +kernel) (by decide) dX7_start_3 (by decide), ?_⟩
  refine List.forall_mem_cons.mpr ⟨ok_if_ne F dX7_start_6 (by decide) (by decide) (by decide), ?_⟩
  refine List.forall_mem_cons.mpr ⟨ok_aload_n F dX7_start_9 rfl (by decide), ?_⟩
  refine List.forall_mem_cons.mpr ⟨ok_iload_n F dX7_start_10 rfl (by decide), ?_⟩
  refine List.forall_mem_cons.mpr ⟨ok_sipush F dX7_start_11 (by decide) (by decide), ?_⟩
  refine List.forall_mem_cons.mpr ⟨ok_iconst F dX7_start_14 (by decide) (by decide), ?_⟩
  refine List.forall_mem_cons.mpr ⟨ok_callV F spok_X7_begins (ln_id aW) rcv_aW (by decide +kernel) (by decide) dX7_start_15 (by decide), ?_⟩
  refine List.forall_mem_cons.mpr ⟨ok_vret F G dX7_start_18 (by decide), ?_⟩
  refine List.forall_mem_cons.mpr ⟨ok_aload_n F dX7_start_19 rfl (by decide), ?_⟩
  refine List.forall_mem_cons.mpr ⟨ok_getf F flX7_7 dX7_start_20 (by decide), ?_⟩
  refine List.forall_mem_cons.mpr ⟨ok_iconst F dX7_start_23 (by decide) (by decide), ?_⟩
  refine List.forall_mem_cons.mpr ⟨ok_iald F dX7_start_24 (by decide), ?_⟩
  refine List.forall_mem_cons.mpr ⟨ok_iconst F dX7_start_25 (by decide) (by decide), ?_⟩
  refine List.forall_mem_cons.mpr ⟨ok_icmp_eq F dX7_start_26 (by decide) (by decide) (by decide), ?_⟩
  refine List.forall_mem_cons.mpr ⟨ok_aload_n F dX7_start_29 rfl (by decide), ?_⟩
  refine List.forall_mem_cons.mpr ⟨ok_aload_n F dX7_start_30 rfl (by decide), ?_⟩
  refine List.forall_mem_cons.mpr ⟨ok_getf F flX7_7 dX7_start_31 (by decide), ?_⟩
  refine List.forall_mem_cons.mpr ⟨ok_iconst F dX7_start_34 (by decide) (by decide), ?_⟩
  refine List.forall_mem_cons.mpr ⟨ok_iald F dX7_start_35 (by decide), ?_⟩
  refine List.forall_mem_cons.mpr ⟨ok_iconst F dX7_start_36 (by decide) (by decide), ?_⟩
  refine List.forall_mem_cons.mpr ⟨ok_sipush F dX7_start_37 (by decide) (by decide), ?_⟩
  refine List.forall_mem_cons.mpr ⟨ok_callV F spok_X7_put (ln_id aW) rcv_aW (by decide +kernel) (by decide) dX7_start_40 (by decide), ?_⟩
  refine List.forall_mem_cons.mpr ⟨ok_aload_n F dX7_start_43 rfl (by decide), ?_⟩
  refine List.forall_mem_cons.mpr ⟨ok_iload_n F dX7_start_44 rfl (by decide), ?_⟩
  refine List.forall_mem_cons.mpr ⟨ok_aload_n F dX7_start_45 rfl (by decide), ?_⟩
  refine List.forall_mem_cons.mpr ⟨ok_iconst F dX7_start_46 (by decide) (by decide), ?_⟩
  refine List.forall_mem_cons.mpr ⟨ok_callV F spok_X7_setting (ln_id aW) rcv_aW (by decide +kernel) (by decide) dX7_start_47 (by decide), ?_⟩
  refine List.forall_mem_cons.mpr ⟨ok_iconst F dX7_start_50 (by decide) (by decide), ?_⟩
  refine List.forall_mem_cons.mpr ⟨ok_callV F spok_X7_begins (ln_id aW) rcv_aW (by decide +kernel) (by decide) dX7_start_51 (by decide), ?_⟩
  refine List.forall_mem_cons.mpr ⟨ok_vret F G dX7_start_54 (by decide), ?_⟩
  exact fun _ h => absurd h List.not_mem_nil
set_option maxRecDepth 100000 in
theorem w_X7_start : (∀ (K : Kt QT) (n : Nat) (L : xL) (st : List Value) (S : QT), nx cod_X7_start cut_X7_start K (n + 1) 0 L st S = (O_aload 0 1) (nx cod_X7_start cut_X7_start K n) 0 L st S) ∧
  (∀ (K : Kt QT) (n : Nat) (L : xL) (st : List Value) (S : QT), nx cod_X7_start cut_X7_start K (n + 1) 1 L st S = (O_iload 1 1) (nx cod_X7_start cut_X7_start K n) 1 L st S) ∧
  (∀ (K : Kt QT) (n : Nat) (L : xL) (st : List Value) (S : QT), nx cod_X7_start cut_X7_start K (n + 1) 2 L st S = (O_int 0 1) (nx cod_X7_start cut_X7_start K n) 2 L st S) ∧
  (∀ (K : Kt QT) (n : Nat) (L : xL) (st : List Value) (S : QT), nx cod_X7_start cut_X7_start K (n + 1) 3 L st S = (O_callV 2 0 (fun S => S) (fun _ S' => S') sp_X7_of) (nx cod_X7_start cut_X7_start K n) 3 L st S) ∧
  (∀ (K : Kt QT) (n : Nat) (L : xL) (st : List Value) (S : QT), nx cod_X7_start cut_X7_start K (n + 1) 6 L st S = (O_if_ne 19) (nx cod_X7_start cut_X7_start K n) 6 L st S) ∧
  (∀ (K : Kt QT) (n : Nat) (L : xL) (st : List Value) (S : QT), nx cod_X7_start cut_X7_start K (n + 1) 9 L st S = (O_aload 0 1) (nx cod_X7_start cut_X7_start K n) 9 L st S) ∧
  (∀ (K : Kt QT) (n : Nat) (L : xL) (st : List Value) (S : QT), nx cod_X7_start cut_X7_start K (n + 1) 10 L st S = (O_iload 1 1) (nx cod_X7_start cut_X7_start K n) 10 L st S) ∧
  (∀ (K : Kt QT) (n : Nat) (L : xL) (st : List Value) (S : QT), nx cod_X7_start cut_X7_start K (n + 1) 11 L st S = (O_int 1000 3) (nx cod_X7_start cut_X7_start K n) 11 L st S) ∧
  (∀ (K : Kt QT) (n : Nat) (L : xL) (st : List Value) (S : QT), nx cod_X7_start cut_X7_start K (n + 1) 14 L st S = (O_int 0 1) (nx cod_X7_start cut_X7_start K n) 14 L st S) ∧
  (∀ (K : Kt QT) (n : Nat) (L : xL) (st : List Value) (S : QT), nx cod_X7_start cut_X7_start K (n + 1) 15 L st S = (O_callV 3 0 (fun S => S) (fun _ S' => S') sp_X7_begins) (nx cod_X7_start cut_X7_start K n) 15 L st S) ∧
  (∀ (K : Kt QT) (n : Nat) (L : xL) (st : List Value) (S : QT), nx cod_X7_start cut_X7_start K (n + 1) 18 L st S = (O_vret) (nx cod_X7_start cut_X7_start K n) 18 L st S) ∧
  (∀ (K : Kt QT) (n : Nat) (L : xL) (st : List Value) (S : QT), nx cod_X7_start cut_X7_start K (n + 1) 19 L st S = (O_aload 0 1) (nx cod_X7_start cut_X7_start K n) 19 L st S) ∧
  (∀ (K : Kt QT) (n : Nat) (L : xL) (st : List Value) (S : QT), nx cod_X7_start cut_X7_start K (n + 1) 20 L st S = (O_getf aW 7 0) (nx cod_X7_start cut_X7_start K n) 20 L st S) ∧
  (∀ (K : Kt QT) (n : Nat) (L : xL) (st : List Value) (S : QT), nx cod_X7_start cut_X7_start K (n + 1) 23 L st S = (O_int 4 1) (nx cod_X7_start cut_X7_start K n) 23 L st S) ∧
  (∀ (K : Kt QT) (n : Nat) (L : xL) (st : List Value) (S : QT), nx cod_X7_start cut_X7_start K (n + 1) 24 L st S = (O_ald aW 0) (nx cod_X7_start cut_X7_start K n) 24 L st S) ∧
  (∀ (K : Kt QT) (n : Nat) (L : xL) (st : List Value) (S : QT), nx cod_X7_start cut_X7_start K (n + 1) 25 L st S = (O_int (-1) 1) (nx cod_X7_start cut_X7_start K n) 25 L st S) ∧
  (∀ (K : Kt QT) (n : Nat) (L : xL) (st : List Value) (S : QT), nx cod_X7_start cut_X7_start K (n + 1) 26 L st S = (O_icmp_eq 43) (nx cod_X7_start cut_X7_start K n) 26 L st S) ∧
  (∀ (K : Kt QT) (n : Nat) (L : xL) (st : List Value) (S : QT), nx cod_X7_start cut_X7_start K (n + 1) 29 L st S = (O_aload 0 1) (nx cod_X7_start cut_X7_start K n) 29 L st S) ∧
  (∀ (K : Kt QT) (n : Nat) (L : xL) (st : List Value) (S : QT), nx cod_X7_start cut_X7_start K (n + 1) 30 L st S = (O_aload 0 1) (nx cod_X7_start cut_X7_start K n) 30 L st S) ∧
  (∀ (K : Kt QT) (n : Nat) (L : xL) (st : List Value) (S : QT), nx cod_X7_start cut_X7_start K (n + 1) 31 L st S = (O_getf aW 7 0) (nx cod_X7_start cut_X7_start K n) 31 L st S) ∧
  (∀ (K : Kt QT) (n : Nat) (L : xL) (st : List Value) (S : QT), nx cod_X7_start cut_X7_start K (n + 1) 34 L st S = (O_int 4 1) (nx cod_X7_start cut_X7_start K n) 34 L st S) ∧
  (∀ (K : Kt QT) (n : Nat) (L : xL) (st : List Value) (S : QT), nx cod_X7_start cut_X7_start K (n + 1) 35 L st S = (O_ald aW 0) (nx cod_X7_start cut_X7_start K n) 35 L st S) ∧
  (∀ (K : Kt QT) (n : Nat) (L : xL) (st : List Value) (S : QT), nx cod_X7_start cut_X7_start K (n + 1) 36 L st S = (O_int 4 1) (nx cod_X7_start cut_X7_start K n) 36 L st S) ∧
  (∀ (K : Kt QT) (n : Nat) (L : xL) (st : List Value) (S : QT), nx cod_X7_start cut_X7_start K (n + 1) 37 L st S = (O_int 1000 3) (nx cod_X7_start cut_X7_start K n) 37 L st S) ∧
  (∀ (K : Kt QT) (n : Nat) (L : xL) (st : List Value) (S : QT), nx cod_X7_start cut_X7_start K (n + 1) 40 L st S = (O_callV 3 0 (fun S => S) (fun _ S' => S') sp_X7_put) (nx cod_X7_start cut_X7_start K n) 40 L st S) ∧
  (∀ (K : Kt QT) (n : Nat) (L : xL) (st : List Value) (S : QT), nx cod_X7_start cut_X7_start K (n + 1) 43 L st S = (O_aload 0 1) (nx cod_X7_start cut_X7_start K n) 43 L st S) ∧
  (∀ (K : Kt QT) (n : Nat) (L : xL) (st : List Value) (S : QT), nx cod_X7_start cut_X7_start K (n + 1) 44 L st S = (O_iload 1 1) (nx cod_X7_start cut_X7_start K n) 44 L st S) ∧
  (∀ (K : Kt QT) (n : Nat) (L : xL) (st : List Value) (S : QT), nx cod_X7_start cut_X7_start K (n + 1) 45 L st S = (O_aload 0 1) (nx cod_X7_start cut_X7_start K n) 45 L st S) ∧
  (∀ (K : Kt QT) (n : Nat) (L : xL) (st : List Value) (S : QT), nx cod_X7_start cut_X7_start K (n + 1) 46 L st S = (O_int 4 1) (nx cod_X7_start cut_X7_start K n) 46 L st S) ∧
  (∀ (K : Kt QT) (n : Nat) (L : xL) (st : List Value) (S : QT), nx cod_X7_start cut_X7_start K (n + 1) 47 L st S = (O_callV 1 0 (fun S => S) (fun _ S' => S') sp_X7_setting) (nx cod_X7_start cut_X7_start K n) 47 L st S) ∧
  (∀ (K : Kt QT) (n : Nat) (L : xL) (st : List Value) (S : QT), nx cod_X7_start cut_X7_start K (n + 1) 50 L st S = (O_int 1 1) (nx cod_X7_start cut_X7_start K n) 50 L st S) ∧
  (∀ (K : Kt QT) (n : Nat) (L : xL) (st : List Value) (S : QT), nx cod_X7_start cut_X7_start K (n + 1) 51 L st S = (O_callV 3 0 (fun S => S) (fun _ S' => S') sp_X7_begins) (nx cod_X7_start cut_X7_start K n) 51 L st S) ∧
  (∀ (K : Kt QT) (n : Nat) (L : xL) (st : List Value) (S : QT), nx cod_X7_start cut_X7_start K (n + 1) 54 L st S = (O_vret) (nx cod_X7_start cut_X7_start K n) 54 L st S) ∧
  (∀ (K : Kt QT) (n : Nat) (L : xL) (st : List Value) (S : QT), nx cod_X7_start cut_X7_start K (n + 1) 100000 L st S = K 100000 L st S) := by
  repeat' apply And.intro
  all_goals (intros; rfl)
set_option maxRecDepth 100000 in
theorem mk_X7_start {P P' : QT} {r : Option Value} {p0 : Int32} (body : ∀ E : En, CodOk E aW cod_X7_start → Gd E aW 100000 [] r.toList P' → Gd E aW 0 [some (.ref 0), some (.int p0)] [] P) : Con yX7_start cX7_start 2 none 2 aW [.ref 0, .int p0] P r P' :=
  Con.of (by decide) ((aW_len P').trans (aW_len P).symm) rfl (Nat.le_of_ble_eq_true rfl) (fun E F G hr => body E (okc_X7_start F G) hr)
set_option maxRecDepth 10000 in
theorem con_X7_start (S : ST) (M : MT) (fl : Bool) (p : Int32) (hp : fl = true ∧ S.inv 1 ∧ S.P.has p = true ∧ S.P.rdy p.toNatClampNeg = true) : Con yX7_start cX7_start 2 none 2 aW [.ref 0, .int p] (S, M, fl) (none) ((S.start p (S.settings 4), M, fl)) := by
  refine mk_X7_start (fun E C hr => ?_)
  obtain ⟨rfl, hi, hh, hy⟩ := hp
  obtain ⟨b1, b2, b3⟩ := PT.start_bgn hi.1 hh hy (S.settings 4)
  have hv := PT.has_in hi.1.1 hh
  have hE := ST.inv_rm (n := 0) hi
  have hst : S.start p (S.settings 4) = (S.sP (S.P.start p (S.settings 4))).event 0 p := rfl
  rw [hst] at hr
  by_cases c1 : S.P.kinds p.toNatClampNeg = 0
  · rw [b1 c1] at hr
    clear b1 b2 b3 hst
    (refine nx_ok C (cuts := cut_X7_start) 1000 _ _ _ _ ?_; simp only [w_X7_start, ops_eq, xst_eq, call_eq, oK_eq, Option.toList_some, Option.toList_none, List.cons_append, List.nil_append, List.length_cons, List.length_nil, true_and, and_true, Nat.reduceAdd, aW_F, aW_A, aW_P, aW_w, abs_eq, O_asti_eq, v170, cl_eq, ST_id, MT_gs, ST_gs, PT_gs, ZT_gs, NT_gs, ET_gs, se_X7_of, se_X7_begins, se_X7_put, se_X7_setting, ev_t, v8_eq, v19_eq, hv, hE, get_eq, put_eq, c1])
    ((repeat' (with_reducible first | apply And.intro | intro _)) <;> simp_all [ST_id, MT_gs, ST_gs, PT_gs, ZT_gs, NT_gs, ET_gs])
  · by_cases c2 : S.P.vrb = -1
    · rw [b2 c1 c2] at hr
      clear b1 b2 b3 hst
      (refine nx_ok C (cuts := cut_X7_start) 1000 _ _ _ _ ?_; simp only [w_X7_start, ops_eq, xst_eq, call_eq, oK_eq, Option.toList_some, Option.toList_none, List.cons_append, List.nil_append, List.length_cons, List.length_nil, true_and, and_true, Nat.reduceAdd, aW_F, aW_A, aW_P, aW_w, abs_eq, O_asti_eq, v170, cl_eq, ST_id, MT_gs, ST_gs, PT_gs, ZT_gs, NT_gs, ET_gs, se_X7_of, se_X7_begins, se_X7_put, se_X7_setting, ev_t, v8_eq, v19_eq, hv, hE, get_eq, put_eq, c1, c2])
      ((repeat' (with_reducible first | apply And.intro | intro _)) <;> simp_all [ST_id, MT_gs, ST_gs, PT_gs, ZT_gs, NT_gs, ET_gs])
    · rw [b3 c1 c2] at hr
      have hv2 : vp_in S.P.vrb 6 := by
        rcases hi.1.2.2.2 with q | ⟨w, w1, w2, _, _⟩
        · exact absurd q c2
        · rw [w2]; exact (ixs hi.1.1 w1).1
      clear b1 b2 b3 hst
      (refine nx_ok C (cuts := cut_X7_start) 1000 _ _ _ _ ?_; simp only [w_X7_start, ops_eq, xst_eq, call_eq, oK_eq, Option.toList_some, Option.toList_none, List.cons_append, List.nil_append, List.length_cons, List.length_nil, true_and, and_true, Nat.reduceAdd, aW_F, aW_A, aW_P, aW_w, abs_eq, O_asti_eq, v170, cl_eq, ST_id, MT_gs, ST_gs, PT_gs, ZT_gs, NT_gs, ET_gs, se_X7_of, se_X7_begins, se_X7_put, se_X7_setting, ev_t, v8_eq, v19_eq, hv, hv2, hE, get_eq, put_eq, c1, c2])
      ((repeat' (with_reducible first | apply And.intro | intro _)) <;> simp_all [ST_id, MT_gs, ST_gs, PT_gs, ZT_gs, NT_gs, ET_gs])
def spc_X7_start (S : ST) (M : MT) (fl : Bool) (p : Int32) (K : Option Value → QT → Prop) : Prop := (fl = true ∧ S.inv 1 ∧ S.P.has p = true ∧ S.P.rdy p.toNatClampNeg = true) ∧ K (none) ((S.start p (S.settings 4), M, fl))
def sp_X7_start : Sp QT := fun av q K => match av with
  | [.ref 0, .int p] => spc_X7_start q.1 q.2.1 q.2.2 p K
  | _ => False
theorem se_X7_start (S : ST) (M : MT) (fl : Bool) (p : Int32) (K : Option Value → QT → Prop) : sp_X7_start [.ref 0, .int p] (S, M, fl) K = ((fl = true ∧ S.inv 1 ∧ S.P.has p = true ∧ S.P.rdy p.toNatClampNeg = true) ∧ K (none) ((S.start p (S.settings 4), M, fl))) := rfl
theorem spok_X7_start : SpOk yX7_start cX7_start 2 none 2 aW sp_X7_start := by
  intro av q K h
  unfold sp_X7_start at h
  split at h
  · rename_i p; refine ⟨_, _, ?_, con_X7_start q.1 q.2.1 q.2.2 p h.1, h.2⟩; trivial
  · exact h.elim
def cod_X7_nextVariable : List (Nat × Op QT) := [(0, O_int (-1) 1), (1, O_istore 1 1), (2, O_int 0 1), (3, O_istore 2 1), (4, O_iload 2 1), (5, O_aload 0 1), (6, O_getf aW 7 0), (9, O_int 14 2), (11, O_ald aW 0), (12, O_icmp_ge 74), (15, O_aload 0 1), (16, O_iload 2 1), (17, O_callV 1 0 (fun S => S) (fun _ S' => S') sp_X7_runs), (20, O_if_eq 36), (23, O_aload 0 1), (24, O_iload 2 1), (25, O_int 0 1), (26, O_callV 2 0 (fun S => S) (fun _ S' => S') sp_X7_of), (29, O_if_eq 36), (32, O_int 1 1), (33, O_goto 37), (36, O_int 0 1), (37, O_istore 3 1), (38, O_iload 3 1), (39, O_if_eq 66), (42, O_iload 1 1), (43, O_int (-1) 1), (44, O_icmp_eq 62), (47, O_aload 0 1), (48, O_iload 2 1), (49, O_int 5 1), (50, O_callV 2 0 (fun S => S) (fun _ S' => S') sp_X7_of), (53, O_aload 0 1), (54, O_iload 1 1), (55, O_int 5 1), (56, O_callV 2 0 (fun S => S) (fun _ S' => S') sp_X7_of), (59, O_icmp_ge 66), (62, O_iload 2 1), (63, O_goto 67), (66, O_iload 1 1), (67, O_istore 1 1), (68, O_iinc 2 1), (71, O_goto 4), (74, O_iload 1 1), (75, O_iret)]
abbrev cut_X7_nextVariable : List Nat := [4]
set_option maxRecDepth 100000 in
theorem okc_X7_nextVariable {E : En} (F : Fx E RX7 cX7_nextVariable 4 2) (G : Fr E (some .int)) : CodOk E aW cod_X7_nextVariable := by
  unfold CodOk cod_X7_nextVariable
  refine List.forall_mem_cons.mpr ⟨ok_iconst F dX7_nextVariable_0 (by decide) (by decide), ?_⟩
  refine List.forall_mem_cons.mpr ⟨ok_istore_n F dX7_nextVariable_1 rfl (by decide) (by decide), ?_⟩
  refine List.forall_mem_cons.mpr ⟨ok_iconst F dX7_nextVariable_2 (by decide) (by decide), ?_⟩
  refine List.forall_mem_cons.mpr ⟨ok_istore_n F dX7_nextVariable_3 rfl (by decide) (by decide), ?_⟩
  refine List.forall_mem_cons.mpr ⟨ok_iload_n F dX7_nextVariable_4 rfl (by decide), ?_⟩
  refine List.forall_mem_cons.mpr ⟨ok_aload_n F dX7_nextVariable_5 rfl (by decide), ?_⟩
  refine List.forall_mem_cons.mpr ⟨ok_getf F flX7_7 dX7_nextVariable_6 (by decide), ?_⟩
  refine List.forall_mem_cons.mpr ⟨ok_bipush F dX7_nextVariable_9 (by decide) (by decide), ?_⟩
  refine List.forall_mem_cons.mpr ⟨ok_iald F dX7_nextVariable_11 (by decide), ?_⟩
  refine List.forall_mem_cons.mpr ⟨ok_icmp_ge F dX7_nextVariable_12 (by decide) (by decide) (by decide), ?_⟩
  refine List.forall_mem_cons.mpr ⟨ok_aload_n F dX7_nextVariable_15 rfl (by decide), ?_⟩
  refine List.forall_mem_cons.mpr ⟨ok_iload_n F dX7_nextVariable_16 rfl (by decide), ?_⟩
  refine List.forall_mem_cons.mpr ⟨ok_callV F spok_X7_runs (ln_id aW) rcv_aW (by decide +kernel) (by decide) dX7_nextVariable_17 (by decide), ?_⟩
  refine List.forall_mem_cons.mpr ⟨ok_if_eq F dX7_nextVariable_20 (by decide) (by decide) (by decide), ?_⟩
  refine List.forall_mem_cons.mpr ⟨ok_aload_n F dX7_nextVariable_23 rfl (by decide), ?_⟩
  refine List.forall_mem_cons.mpr ⟨ok_iload_n F dX7_nextVariable_24 rfl (by decide), ?_⟩
  refine List.forall_mem_cons.mpr ⟨ok_iconst F dX7_nextVariable_25 (by decide) (by decide), ?_⟩
  refine List.forall_mem_cons.mpr ⟨ok_callV F spok_X7_of (ln_id aW) rcv_aW (by decide +kernel) (by decide) dX7_nextVariable_26 (by decide), ?_⟩
  refine List.forall_mem_cons.mpr ⟨ok_if_eq F dX7_nextVariable_29 (by decide) (by decide) (by decide), ?_⟩
  refine List.forall_mem_cons.mpr ⟨ok_iconst F dX7_nextVariable_32 (by decide) (by decide), ?_⟩
  refine List.forall_mem_cons.mpr ⟨ok_goto F dX7_nextVariable_33 (by decide) (by decide) (by decide), ?_⟩
  refine List.forall_mem_cons.mpr ⟨ok_iconst F dX7_nextVariable_36 (by decide) (by decide), ?_⟩
  refine List.forall_mem_cons.mpr ⟨ok_istore_n F dX7_nextVariable_37 rfl (by decide) (by decide), ?_⟩
  refine List.forall_mem_cons.mpr ⟨ok_iload_n F dX7_nextVariable_38 rfl (by decide), ?_⟩
  refine List.forall_mem_cons.mpr ⟨ok_if_eq F dX7_nextVariable_39 (by decide) (by decide) (by decide), ?_⟩
  refine List.forall_mem_cons.mpr ⟨ok_iload_n F dX7_nextVariable_42 rfl (by decide), ?_⟩
  refine List.forall_mem_cons.mpr ⟨ok_iconst F dX7_nextVariable_43 (by decide) (by decide), ?_⟩
  refine List.forall_mem_cons.mpr ⟨ok_icmp_eq F dX7_nextVariable_44 (by decide) (by decide) (by decide), ?_⟩
  refine List.forall_mem_cons.mpr ⟨ok_aload_n F dX7_nextVariable_47 rfl (by decide), ?_⟩
  refine List.forall_mem_cons.mpr ⟨ok_iload_n F dX7_nextVariable_48 rfl (by decide), ?_⟩
  refine List.forall_mem_cons.mpr ⟨ok_iconst F dX7_nextVariable_49 (by decide) (by decide), ?_⟩
  refine List.forall_mem_cons.mpr ⟨ok_callV F spok_X7_of (ln_id aW) rcv_aW (by decide +kernel) (by decide) dX7_nextVariable_50 (by decide), ?_⟩
  refine List.forall_mem_cons.mpr ⟨ok_aload_n F dX7_nextVariable_53 rfl (by decide), ?_⟩
  refine List.forall_mem_cons.mpr ⟨ok_iload_n F dX7_nextVariable_54 rfl (by decide), ?_⟩
  refine List.forall_mem_cons.mpr ⟨ok_iconst F dX7_nextVariable_55 (by decide) (by decide), ?_⟩
  refine List.forall_mem_cons.mpr ⟨ok_callV F spok_X7_of (ln_id aW) rcv_aW (by decide +kernel) (by decide) dX7_nextVariable_56 (by decide), ?_⟩
  refine List.forall_mem_cons.mpr ⟨ok_icmp_ge F dX7_nextVariable_59 (by decide) (by decide) (by decide), ?_⟩
  refine List.forall_mem_cons.mpr ⟨ok_iload_n F dX7_nextVariable_62 rfl (by decide), ?_⟩
  refine List.forall_mem_cons.mpr ⟨ok_goto F dX7_nextVariable_63 (by decide) (by decide) (by decide), ?_⟩
  refine List.forall_mem_cons.mpr ⟨ok_iload_n F dX7_nextVariable_66 rfl (by decide), ?_⟩
  refine List.forall_mem_cons.mpr ⟨ok_istore_n F dX7_nextVariable_67 rfl (by decide) (by decide), ?_⟩
  refine List.forall_mem_cons.mpr ⟨ok_iinc F dX7_nextVariable_68 (by decide) (by decide) (by decide), ?_⟩
  refine List.forall_mem_cons.mpr ⟨ok_goto F dX7_nextVariable_71 (by decide) (by decide) (by decide), ?_⟩
  refine List.forall_mem_cons.mpr ⟨ok_iload_n F dX7_nextVariable_74 rfl (by decide), ?_⟩
  refine List.forall_mem_cons.mpr ⟨ok_iret F G dX7_nextVariable_75 (by decide), ?_⟩
  exact fun _ h => absurd h List.not_mem_nil
set_option maxRecDepth 100000 in
theorem w_X7_nextVariable : (∀ (K : Kt QT) (n : Nat) (L : xL) (st : List Value) (S : QT), nx cod_X7_nextVariable cut_X7_nextVariable K (n + 1) 0 L st S = (O_int (-1) 1) (nx cod_X7_nextVariable cut_X7_nextVariable K n) 0 L st S) ∧
  (∀ (K : Kt QT) (n : Nat) (L : xL) (st : List Value) (S : QT), nx cod_X7_nextVariable cut_X7_nextVariable K (n + 1) 1 L st S = (O_istore 1 1) (nx cod_X7_nextVariable cut_X7_nextVariable K n) 1 L st S) ∧
  (∀ (K : Kt QT) (n : Nat) (L : xL) (st : List Value) (S : QT), nx cod_X7_nextVariable cut_X7_nextVariable K (n + 1) 2 L st S = (O_int 0 1) (nx cod_X7_nextVariable cut_X7_nextVariable K n) 2 L st S) ∧
  (∀ (K : Kt QT) (n : Nat) (L : xL) (st : List Value) (S : QT), nx cod_X7_nextVariable cut_X7_nextVariable K (n + 1) 3 L st S = (O_istore 2 1) (nx cod_X7_nextVariable cut_X7_nextVariable K n) 3 L st S) ∧
  (∀ (K : Kt QT) (n : Nat) (L : xL) (st : List Value) (S : QT), nx cod_X7_nextVariable cut_X7_nextVariable K (n + 1) 4 L st S = K 4 L st S) ∧
  (∀ (K : Kt QT) (n : Nat) (L : xL) (st : List Value) (S : QT), nx1 cod_X7_nextVariable cut_X7_nextVariable K n 4 L st S = (O_iload 2 1) (nx cod_X7_nextVariable cut_X7_nextVariable K n) 4 L st S) ∧
  (∀ (K : Kt QT) (n : Nat) (L : xL) (st : List Value) (S : QT), nx cod_X7_nextVariable cut_X7_nextVariable K (n + 1) 5 L st S = (O_aload 0 1) (nx cod_X7_nextVariable cut_X7_nextVariable K n) 5 L st S) ∧
  (∀ (K : Kt QT) (n : Nat) (L : xL) (st : List Value) (S : QT), nx cod_X7_nextVariable cut_X7_nextVariable K (n + 1) 6 L st S = (O_getf aW 7 0) (nx cod_X7_nextVariable cut_X7_nextVariable K n) 6 L st S) ∧
  (∀ (K : Kt QT) (n : Nat) (L : xL) (st : List Value) (S : QT), nx cod_X7_nextVariable cut_X7_nextVariable K (n + 1) 9 L st S = (O_int 14 2) (nx cod_X7_nextVariable cut_X7_nextVariable K n) 9 L st S) ∧
  (∀ (K : Kt QT) (n : Nat) (L : xL) (st : List Value) (S : QT), nx cod_X7_nextVariable cut_X7_nextVariable K (n + 1) 11 L st S = (O_ald aW 0) (nx cod_X7_nextVariable cut_X7_nextVariable K n) 11 L st S) ∧
  (∀ (K : Kt QT) (n : Nat) (L : xL) (st : List Value) (S : QT), nx cod_X7_nextVariable cut_X7_nextVariable K (n + 1) 12 L st S = (O_icmp_ge 74) (nx cod_X7_nextVariable cut_X7_nextVariable K n) 12 L st S) ∧
  (∀ (K : Kt QT) (n : Nat) (L : xL) (st : List Value) (S : QT), nx cod_X7_nextVariable cut_X7_nextVariable K (n + 1) 15 L st S = (O_aload 0 1) (nx cod_X7_nextVariable cut_X7_nextVariable K n) 15 L st S) ∧
  (∀ (K : Kt QT) (n : Nat) (L : xL) (st : List Value) (S : QT), nx cod_X7_nextVariable cut_X7_nextVariable K (n + 1) 16 L st S = (O_iload 2 1) (nx cod_X7_nextVariable cut_X7_nextVariable K n) 16 L st S) ∧
  (∀ (K : Kt QT) (n : Nat) (L : xL) (st : List Value) (S : QT), nx cod_X7_nextVariable cut_X7_nextVariable K (n + 1) 17 L st S = (O_callV 1 0 (fun S => S) (fun _ S' => S') sp_X7_runs) (nx cod_X7_nextVariable cut_X7_nextVariable K n) 17 L st S) ∧
  (∀ (K : Kt QT) (n : Nat) (L : xL) (st : List Value) (S : QT), nx cod_X7_nextVariable cut_X7_nextVariable K (n + 1) 20 L st S = (O_if_eq 36) (nx cod_X7_nextVariable cut_X7_nextVariable K n) 20 L st S) ∧
  (∀ (K : Kt QT) (n : Nat) (L : xL) (st : List Value) (S : QT), nx cod_X7_nextVariable cut_X7_nextVariable K (n + 1) 23 L st S = (O_aload 0 1) (nx cod_X7_nextVariable cut_X7_nextVariable K n) 23 L st S) ∧
  (∀ (K : Kt QT) (n : Nat) (L : xL) (st : List Value) (S : QT), nx cod_X7_nextVariable cut_X7_nextVariable K (n + 1) 24 L st S = (O_iload 2 1) (nx cod_X7_nextVariable cut_X7_nextVariable K n) 24 L st S) ∧
  (∀ (K : Kt QT) (n : Nat) (L : xL) (st : List Value) (S : QT), nx cod_X7_nextVariable cut_X7_nextVariable K (n + 1) 25 L st S = (O_int 0 1) (nx cod_X7_nextVariable cut_X7_nextVariable K n) 25 L st S) ∧
  (∀ (K : Kt QT) (n : Nat) (L : xL) (st : List Value) (S : QT), nx cod_X7_nextVariable cut_X7_nextVariable K (n + 1) 26 L st S = (O_callV 2 0 (fun S => S) (fun _ S' => S') sp_X7_of) (nx cod_X7_nextVariable cut_X7_nextVariable K n) 26 L st S) ∧
  (∀ (K : Kt QT) (n : Nat) (L : xL) (st : List Value) (S : QT), nx cod_X7_nextVariable cut_X7_nextVariable K (n + 1) 29 L st S = (O_if_eq 36) (nx cod_X7_nextVariable cut_X7_nextVariable K n) 29 L st S) ∧
  (∀ (K : Kt QT) (n : Nat) (L : xL) (st : List Value) (S : QT), nx cod_X7_nextVariable cut_X7_nextVariable K (n + 1) 32 L st S = (O_int 1 1) (nx cod_X7_nextVariable cut_X7_nextVariable K n) 32 L st S) ∧
  (∀ (K : Kt QT) (n : Nat) (L : xL) (st : List Value) (S : QT), nx cod_X7_nextVariable cut_X7_nextVariable K (n + 1) 33 L st S = (O_goto 37) (nx cod_X7_nextVariable cut_X7_nextVariable K n) 33 L st S) ∧
  (∀ (K : Kt QT) (n : Nat) (L : xL) (st : List Value) (S : QT), nx cod_X7_nextVariable cut_X7_nextVariable K (n + 1) 36 L st S = (O_int 0 1) (nx cod_X7_nextVariable cut_X7_nextVariable K n) 36 L st S) ∧
  (∀ (K : Kt QT) (n : Nat) (L : xL) (st : List Value) (S : QT), nx cod_X7_nextVariable cut_X7_nextVariable K (n + 1) 37 L st S = (O_istore 3 1) (nx cod_X7_nextVariable cut_X7_nextVariable K n) 37 L st S) ∧
  (∀ (K : Kt QT) (n : Nat) (L : xL) (st : List Value) (S : QT), nx cod_X7_nextVariable cut_X7_nextVariable K (n + 1) 38 L st S = (O_iload 3 1) (nx cod_X7_nextVariable cut_X7_nextVariable K n) 38 L st S) ∧
  (∀ (K : Kt QT) (n : Nat) (L : xL) (st : List Value) (S : QT), nx cod_X7_nextVariable cut_X7_nextVariable K (n + 1) 39 L st S = (O_if_eq 66) (nx cod_X7_nextVariable cut_X7_nextVariable K n) 39 L st S) ∧
  (∀ (K : Kt QT) (n : Nat) (L : xL) (st : List Value) (S : QT), nx cod_X7_nextVariable cut_X7_nextVariable K (n + 1) 42 L st S = (O_iload 1 1) (nx cod_X7_nextVariable cut_X7_nextVariable K n) 42 L st S) ∧
  (∀ (K : Kt QT) (n : Nat) (L : xL) (st : List Value) (S : QT), nx cod_X7_nextVariable cut_X7_nextVariable K (n + 1) 43 L st S = (O_int (-1) 1) (nx cod_X7_nextVariable cut_X7_nextVariable K n) 43 L st S) ∧
  (∀ (K : Kt QT) (n : Nat) (L : xL) (st : List Value) (S : QT), nx cod_X7_nextVariable cut_X7_nextVariable K (n + 1) 44 L st S = (O_icmp_eq 62) (nx cod_X7_nextVariable cut_X7_nextVariable K n) 44 L st S) ∧
  (∀ (K : Kt QT) (n : Nat) (L : xL) (st : List Value) (S : QT), nx cod_X7_nextVariable cut_X7_nextVariable K (n + 1) 47 L st S = (O_aload 0 1) (nx cod_X7_nextVariable cut_X7_nextVariable K n) 47 L st S) ∧
  (∀ (K : Kt QT) (n : Nat) (L : xL) (st : List Value) (S : QT), nx cod_X7_nextVariable cut_X7_nextVariable K (n + 1) 48 L st S = (O_iload 2 1) (nx cod_X7_nextVariable cut_X7_nextVariable K n) 48 L st S) ∧
  (∀ (K : Kt QT) (n : Nat) (L : xL) (st : List Value) (S : QT), nx cod_X7_nextVariable cut_X7_nextVariable K (n + 1) 49 L st S = (O_int 5 1) (nx cod_X7_nextVariable cut_X7_nextVariable K n) 49 L st S) ∧
  (∀ (K : Kt QT) (n : Nat) (L : xL) (st : List Value) (S : QT), nx cod_X7_nextVariable cut_X7_nextVariable K (n + 1) 50 L st S = (O_callV 2 0 (fun S => S) (fun _ S' => S') sp_X7_of) (nx cod_X7_nextVariable cut_X7_nextVariable K n) 50 L st S) ∧
  (∀ (K : Kt QT) (n : Nat) (L : xL) (st : List Value) (S : QT), nx cod_X7_nextVariable cut_X7_nextVariable K (n + 1) 53 L st S = (O_aload 0 1) (nx cod_X7_nextVariable cut_X7_nextVariable K n) 53 L st S) ∧
  (∀ (K : Kt QT) (n : Nat) (L : xL) (st : List Value) (S : QT), nx cod_X7_nextVariable cut_X7_nextVariable K (n + 1) 54 L st S = (O_iload 1 1) (nx cod_X7_nextVariable cut_X7_nextVariable K n) 54 L st S) ∧
  (∀ (K : Kt QT) (n : Nat) (L : xL) (st : List Value) (S : QT), nx cod_X7_nextVariable cut_X7_nextVariable K (n + 1) 55 L st S = (O_int 5 1) (nx cod_X7_nextVariable cut_X7_nextVariable K n) 55 L st S) ∧
  (∀ (K : Kt QT) (n : Nat) (L : xL) (st : List Value) (S : QT), nx cod_X7_nextVariable cut_X7_nextVariable K (n + 1) 56 L st S = (O_callV 2 0 (fun S => S) (fun _ S' => S') sp_X7_of) (nx cod_X7_nextVariable cut_X7_nextVariable K n) 56 L st S) ∧
  (∀ (K : Kt QT) (n : Nat) (L : xL) (st : List Value) (S : QT), nx cod_X7_nextVariable cut_X7_nextVariable K (n + 1) 59 L st S = (O_icmp_ge 66) (nx cod_X7_nextVariable cut_X7_nextVariable K n) 59 L st S) ∧
  (∀ (K : Kt QT) (n : Nat) (L : xL) (st : List Value) (S : QT), nx cod_X7_nextVariable cut_X7_nextVariable K (n + 1) 62 L st S = (O_iload 2 1) (nx cod_X7_nextVariable cut_X7_nextVariable K n) 62 L st S) ∧
  (∀ (K : Kt QT) (n : Nat) (L : xL) (st : List Value) (S : QT), nx cod_X7_nextVariable cut_X7_nextVariable K (n + 1) 63 L st S = (O_goto 67) (nx cod_X7_nextVariable cut_X7_nextVariable K n) 63 L st S) ∧
  (∀ (K : Kt QT) (n : Nat) (L : xL) (st : List Value) (S : QT), nx cod_X7_nextVariable cut_X7_nextVariable K (n + 1) 66 L st S = (O_iload 1 1) (nx cod_X7_nextVariable cut_X7_nextVariable K n) 66 L st S) ∧
  (∀ (K : Kt QT) (n : Nat) (L : xL) (st : List Value) (S : QT), nx cod_X7_nextVariable cut_X7_nextVariable K (n + 1) 67 L st S = (O_istore 1 1) (nx cod_X7_nextVariable cut_X7_nextVariable K n) 67 L st S) ∧
  (∀ (K : Kt QT) (n : Nat) (L : xL) (st : List Value) (S : QT), nx cod_X7_nextVariable cut_X7_nextVariable K (n + 1) 68 L st S = (O_iinc 2 1) (nx cod_X7_nextVariable cut_X7_nextVariable K n) 68 L st S) ∧
  (∀ (K : Kt QT) (n : Nat) (L : xL) (st : List Value) (S : QT), nx cod_X7_nextVariable cut_X7_nextVariable K (n + 1) 71 L st S = (O_goto 4) (nx cod_X7_nextVariable cut_X7_nextVariable K n) 71 L st S) ∧
  (∀ (K : Kt QT) (n : Nat) (L : xL) (st : List Value) (S : QT), nx cod_X7_nextVariable cut_X7_nextVariable K (n + 1) 74 L st S = (O_iload 1 1) (nx cod_X7_nextVariable cut_X7_nextVariable K n) 74 L st S) ∧
  (∀ (K : Kt QT) (n : Nat) (L : xL) (st : List Value) (S : QT), nx cod_X7_nextVariable cut_X7_nextVariable K (n + 1) 75 L st S = (O_iret) (nx cod_X7_nextVariable cut_X7_nextVariable K n) 75 L st S) ∧
  (∀ (K : Kt QT) (n : Nat) (L : xL) (st : List Value) (S : QT), nx cod_X7_nextVariable cut_X7_nextVariable K (n + 1) 100000 L st S = K 100000 L st S) := by
  repeat' apply And.intro
  all_goals (intros; rfl)
set_option maxRecDepth 100000 in
theorem mk_X7_nextVariable {P P' : QT} {r : Option Value}  (body : ∀ E : En, CodOk E aW cod_X7_nextVariable → Gd E aW 100000 [] r.toList P' → Gd E aW 0 [some (.ref 0), none, none, none] [] P) : Con yX7_nextVariable cX7_nextVariable 4 (some .int) 2 aW [.ref 0] P r P' :=
  Con.of (by decide) ((aW_len P').trans (aW_len P).symm) rfl (Nat.le_of_ble_eq_true rfl) (fun E F G hr => body E (okc_X7_nextVariable F G) hr)
set_option maxRecDepth 10000 in
theorem con_X7_nextVariable (S : ST) (M : MT) (fl : Bool)  (hp : S.P.ok) : Con yX7_nextVariable cX7_nextVariable 4 (some .int) 2 aW [.ref 0] (S, M, fl) (some (.int (S.P.nextVar))) ((S, M, fl)) := by
  refine mk_X7_nextVariable (fun E C hr => ?_)
  have step : (∀ q3 : Option Value, Gd E aW 4 [some (.ref 0), some (.int (-1)), some (.int (nI 0)), q3] [] (S, M, fl)) → Gd E aW 0 [some (.ref 0), none, none, none] [] (S, M, fl) := by
    intro hh
    have hh := hh none
    clear hr
    (refine nx_ok C (cuts := cut_X7_nextVariable) 1000 _ _ _ _ ?_; simp only [w_X7_nextVariable, ops_eq, xst_eq, call_eq, oK_eq, Option.toList_some, Option.toList_none, List.cons_append, List.nil_append, List.length_cons, List.length_nil, true_and, and_true, Nat.reduceAdd, aW_F, aW_A, aW_P, aW_w, abs_eq, O_asti_eq, v170, cl_eq, ST_id, MT_gs, ST_gs, PT_gs, ZT_gs, NT_gs, ET_gs, se_X7_runs, se_X7_of])
    ((repeat' (with_reducible first | apply And.intro | intro _)) <;> simp_all [nI_0, ST_id, MT_gs, ST_gs, PT_gs, ZT_gs, NT_gs, ET_gs])
  refine step ?_
  refine it_up (f := fun p b => if S.P.run p = true ∧ ¬ S.P.kinds p = 0 ∧ (b = -1 ∨ S.P.minutes p < S.P.minutes b.toNatClampNeg) then nI p else b) (a := (-1 : Int32)) (n := S.P.n) (fun _ b => isP b 6) (fun i b => ∀ q3 : Option Value, Gd E aW 4 [some (.ref 0), some (.int b), some (.int (nI i)), q3] [] (S, M, fl)) (Or.inl rfl) (fun i b hi hb => ite_isP (ixs hp hi).1 hb) (fun i b hi hb hn q3 => ?_) (fun q3 => ?_)
  · have hx := ixs hp hi
    have hn := hn (some (.int (bI (decide (S.P.run i = true ∧ ¬ S.P.kinds i = 0)))))
    unfold isP at hb
    clear hr
    (refine nx1_ok C cut_X7_nextVariable 1000 ?_; simp only [w_X7_nextVariable, ops_eq, xst_eq, call_eq, oK_eq, Option.toList_some, Option.toList_none, List.cons_append, List.nil_append, List.length_cons, List.length_nil, true_and, and_true, Nat.reduceAdd, aW_F, aW_A, aW_P, aW_w, abs_eq, O_asti_eq, v170, cl_eq, ST_id, MT_gs, ST_gs, PT_gs, ZT_gs, NT_gs, ET_gs, se_X7_runs, se_X7_of, hx, v8_eq, bI_eq, get_eq])
    ((repeat' (with_reducible first | apply And.intro | intro _)) <;> simp_all [bI, ST_id, MT_gs, ST_gs, PT_gs, ZT_gs, NT_gs, ET_gs])
  · have hx := ixe hp
    (refine nx1_ok C cut_X7_nextVariable 1000 ?_; simp only [w_X7_nextVariable, ops_eq, xst_eq, call_eq, oK_eq, Option.toList_some, Option.toList_none, List.cons_append, List.nil_append, List.length_cons, List.length_nil, true_and, and_true, Nat.reduceAdd, aW_F, aW_A, aW_P, aW_w, abs_eq, O_asti_eq, v170, cl_eq, ST_id, MT_gs, ST_gs, PT_gs, ZT_gs, NT_gs, ET_gs, se_X7_runs, se_X7_of, hx])
    ((repeat' (with_reducible first | apply And.intro | intro _)) <;> simp_all [PT.nextVar, ST_id, MT_gs, ST_gs, PT_gs, ZT_gs, NT_gs, ET_gs])
def spc_X7_nextVariable (S : ST) (M : MT) (fl : Bool)  (K : Option Value → QT → Prop) : Prop := (S.P.ok) ∧ K (some (.int (S.P.nextVar))) ((S, M, fl))
def sp_X7_nextVariable : Sp QT := fun av q K => match av with
  | [.ref 0] => spc_X7_nextVariable q.1 q.2.1 q.2.2  K
  | _ => False
theorem se_X7_nextVariable (S : ST) (M : MT) (fl : Bool)  (K : Option Value → QT → Prop) : sp_X7_nextVariable [.ref 0] (S, M, fl) K = ((S.P.ok) ∧ K (some (.int (S.P.nextVar))) ((S, M, fl))) := rfl
theorem spok_X7_nextVariable : SpOk yX7_nextVariable cX7_nextVariable 4 (some .int) 2 aW sp_X7_nextVariable := by
  intro av q K h
  unfold sp_X7_nextVariable at h
  split at h
  · refine ⟨_, _, ?_, con_X7_nextVariable q.1 q.2.1 q.2.2  h.1, h.2⟩; trivial
  · exact h.elim
theorem PT.runs_has {S : PT} {p : Int32} (h : S.runs p = true) : S.has p = true ∧ S.run p.toNatClampNeg = true := by
  unfold PT.runs at h
  simpa using h
def cod_X7_stop : List (Nat × Op QT) := [(0, O_aload 0 1), (1, O_iload 1 1), (2, O_int 4 1), (3, O_int 0 1), (4, O_callV 3 0 (fun S => S) (fun _ S' => S') sp_X7_put), (7, O_aload 0 1), (8, O_iload 1 1), (9, O_int 6 2), (11, O_int 0 1), (12, O_callV 3 0 (fun S => S) (fun _ S' => S') sp_X7_put), (15, O_aload 0 1), (16, O_getf aW 7 0), (19, O_int 4 1), (20, O_aload 0 1), (21, O_getf aW 7 0), (24, O_int 4 1), (25, O_ald aW 0), (26, O_iload 1 1), (27, O_icmp_ne 37), (30, O_aload 0 1), (31, O_callV 0 0 (fun S => S) (fun _ S' => S') sp_X7_nextVariable), (34, O_goto 43), (37, O_aload 0 1), (38, O_getf aW 7 0), (41, O_int 4 1), (42, O_ald aW 0), (43, O_asti aW aW_wi), (44, O_aload 0 1), (45, O_int 1 1), (46, O_iload 1 1), (47, O_callV 2 0 (fun S => S) (fun _ S' => S') spa_X7_event), (50, O_vret)]
abbrev cut_X7_stop : List Nat := []
set_option maxRecDepth 100000 in
theorem okc_X7_stop {E : En} (F : Fx E RX7 cX7_stop 2 3) (G : Fr E none) : CodOk E aW cod_X7_stop := by
  unfold CodOk cod_X7_stop
  refine List.forall_mem_cons.mpr ⟨ok_aload_n F dX7_stop_0 rfl (by decide), ?_⟩
  refine List.forall_mem_cons.mpr ⟨ok_iload_n F dX7_stop_1 rfl (by decide), ?_⟩
  refine List.forall_mem_cons.mpr ⟨ok_iconst F dX7_stop_2 (by decide) (by decide), ?_⟩
  refine List.forall_mem_cons.mpr ⟨ok_iconst F dX7_stop_3 (by decide) (by decide), ?_⟩
  refine List.forall_mem_cons.mpr ⟨ok_callV F spok_X7_put (ln_id aW) rcv_aW (by decide +kernel) (by decide) dX7_stop_4 (by decide), ?_⟩
  refine List.forall_mem_cons.mpr ⟨ok_aload_n F dX7_stop_7 rfl (by decide), ?_⟩
  refine List.forall_mem_cons.mpr ⟨ok_iload_n F dX7_stop_8 rfl (by decide), ?_⟩
  refine List.forall_mem_cons.mpr ⟨ok_bipush F dX7_stop_9 (by decide) (by decide), ?_⟩
  refine List.forall_mem_cons.mpr ⟨ok_iconst F dX7_stop_11 (by decide) (by decide), ?_⟩
  refine List.forall_mem_cons.mpr ⟨ok_callV F spok_X7_put (ln_id aW) rcv_aW (by decide +kernel) (by decide) dX7_stop_12 (by decide), ?_⟩
  refine List.forall_mem_cons.mpr ⟨ok_aload_n F dX7_stop_15 rfl (by decide), ?_⟩
  refine List.forall_mem_cons.mpr ⟨ok_getf F flX7_7 dX7_stop_16 (by decide), ?_⟩
  refine List.forall_mem_cons.mpr ⟨ok_iconst F dX7_stop_19 (by decide) (by decide), ?_⟩
  refine List.forall_mem_cons.mpr ⟨ok_aload_n F dX7_stop_20 rfl (by decide), ?_⟩
  refine List.forall_mem_cons.mpr ⟨ok_getf F flX7_7 dX7_stop_21 (by decide), ?_⟩
  refine List.forall_mem_cons.mpr ⟨ok_iconst F dX7_stop_24 (by decide) (by decide), ?_⟩
  refine List.forall_mem_cons.mpr ⟨ok_iald F dX7_stop_25 (by decide), ?_⟩
  refine List.forall_mem_cons.mpr ⟨ok_iload_n F dX7_stop_26 rfl (by decide), ?_⟩
  refine List.forall_mem_cons.mpr ⟨ok_icmp_ne F dX7_stop_27 (by decide) (by decide) (by decide), ?_⟩
  refine List.forall_mem_cons.mpr ⟨ok_aload_n F dX7_stop_30 rfl (by decide), ?_⟩
  refine List.forall_mem_cons.mpr ⟨ok_callV F spok_X7_nextVariable (ln_id aW) rcv_aW (by decide +kernel) (by decide) dX7_stop_31 (by decide), ?_⟩
  refine List.forall_mem_cons.mpr ⟨ok_goto F dX7_stop_34 (by decide) (by decide) (by decide), ?_⟩
  refine List.forall_mem_cons.mpr ⟨ok_aload_n F dX7_stop_37 rfl (by decide), ?_⟩
  refine List.forall_mem_cons.mpr ⟨ok_getf F flX7_7 dX7_stop_38 (by decide), ?_⟩
  refine List.forall_mem_cons.mpr ⟨ok_iconst F dX7_stop_41 (by decide) (by decide), ?_⟩
  refine List.forall_mem_cons.mpr ⟨ok_iald F dX7_stop_42 (by decide), ?_⟩
  refine List.forall_mem_cons.mpr ⟨ok_asti F aW_wok dX7_stop_43 (by decide), ?_⟩
  refine List.forall_mem_cons.mpr ⟨ok_aload_n F dX7_stop_44 rfl (by decide), ?_⟩
  refine List.forall_mem_cons.mpr ⟨ok_iconst F dX7_stop_45 (by decide) (by decide), ?_⟩
  refine List.forall_mem_cons.mpr ⟨ok_iload_n F dX7_stop_46 rfl (by decide), ?_⟩
  refine List.forall_mem_cons.mpr ⟨ok_callV F spoka_X7_event (ln_id aW) rcv_aW (by decide +kernel) (by decide) dX7_stop_47 (by decide), ?_⟩
  refine List.forall_mem_cons.mpr ⟨ok_vret F G dX7_stop_50 (by decide), ?_⟩
  exact fun _ h => absurd h List.not_mem_nil
set_option maxRecDepth 100000 in
theorem w_X7_stop : (∀ (K : Kt QT) (n : Nat) (L : xL) (st : List Value) (S : QT), nx cod_X7_stop cut_X7_stop K (n + 1) 0 L st S = (O_aload 0 1) (nx cod_X7_stop cut_X7_stop K n) 0 L st S) ∧
  (∀ (K : Kt QT) (n : Nat) (L : xL) (st : List Value) (S : QT), nx cod_X7_stop cut_X7_stop K (n + 1) 1 L st S = (O_iload 1 1) (nx cod_X7_stop cut_X7_stop K n) 1 L st S) ∧
  (∀ (K : Kt QT) (n : Nat) (L : xL) (st : List Value) (S : QT), nx cod_X7_stop cut_X7_stop K (n + 1) 2 L st S = (O_int 4 1) (nx cod_X7_stop cut_X7_stop K n) 2 L st S) ∧
  (∀ (K : Kt QT) (n : Nat) (L : xL) (st : List Value) (S : QT), nx cod_X7_stop cut_X7_stop K (n + 1) 3 L st S = (O_int 0 1) (nx cod_X7_stop cut_X7_stop K n) 3 L st S) ∧
  (∀ (K : Kt QT) (n : Nat) (L : xL) (st : List Value) (S : QT), nx cod_X7_stop cut_X7_stop K (n + 1) 4 L st S = (O_callV 3 0 (fun S => S) (fun _ S' => S') sp_X7_put) (nx cod_X7_stop cut_X7_stop K n) 4 L st S) ∧
  (∀ (K : Kt QT) (n : Nat) (L : xL) (st : List Value) (S : QT), nx cod_X7_stop cut_X7_stop K (n + 1) 7 L st S = (O_aload 0 1) (nx cod_X7_stop cut_X7_stop K n) 7 L st S) ∧
  (∀ (K : Kt QT) (n : Nat) (L : xL) (st : List Value) (S : QT), nx cod_X7_stop cut_X7_stop K (n + 1) 8 L st S = (O_iload 1 1) (nx cod_X7_stop cut_X7_stop K n) 8 L st S) ∧
  (∀ (K : Kt QT) (n : Nat) (L : xL) (st : List Value) (S : QT), nx cod_X7_stop cut_X7_stop K (n + 1) 9 L st S = (O_int 6 2) (nx cod_X7_stop cut_X7_stop K n) 9 L st S) ∧
  (∀ (K : Kt QT) (n : Nat) (L : xL) (st : List Value) (S : QT), nx cod_X7_stop cut_X7_stop K (n + 1) 11 L st S = (O_int 0 1) (nx cod_X7_stop cut_X7_stop K n) 11 L st S) ∧
  (∀ (K : Kt QT) (n : Nat) (L : xL) (st : List Value) (S : QT), nx cod_X7_stop cut_X7_stop K (n + 1) 12 L st S = (O_callV 3 0 (fun S => S) (fun _ S' => S') sp_X7_put) (nx cod_X7_stop cut_X7_stop K n) 12 L st S) ∧
  (∀ (K : Kt QT) (n : Nat) (L : xL) (st : List Value) (S : QT), nx cod_X7_stop cut_X7_stop K (n + 1) 15 L st S = (O_aload 0 1) (nx cod_X7_stop cut_X7_stop K n) 15 L st S) ∧
  (∀ (K : Kt QT) (n : Nat) (L : xL) (st : List Value) (S : QT), nx cod_X7_stop cut_X7_stop K (n + 1) 16 L st S = (O_getf aW 7 0) (nx cod_X7_stop cut_X7_stop K n) 16 L st S) ∧
  (∀ (K : Kt QT) (n : Nat) (L : xL) (st : List Value) (S : QT), nx cod_X7_stop cut_X7_stop K (n + 1) 19 L st S = (O_int 4 1) (nx cod_X7_stop cut_X7_stop K n) 19 L st S) ∧
  (∀ (K : Kt QT) (n : Nat) (L : xL) (st : List Value) (S : QT), nx cod_X7_stop cut_X7_stop K (n + 1) 20 L st S = (O_aload 0 1) (nx cod_X7_stop cut_X7_stop K n) 20 L st S) ∧
  (∀ (K : Kt QT) (n : Nat) (L : xL) (st : List Value) (S : QT), nx cod_X7_stop cut_X7_stop K (n + 1) 21 L st S = (O_getf aW 7 0) (nx cod_X7_stop cut_X7_stop K n) 21 L st S) ∧
  (∀ (K : Kt QT) (n : Nat) (L : xL) (st : List Value) (S : QT), nx cod_X7_stop cut_X7_stop K (n + 1) 24 L st S = (O_int 4 1) (nx cod_X7_stop cut_X7_stop K n) 24 L st S) ∧
  (∀ (K : Kt QT) (n : Nat) (L : xL) (st : List Value) (S : QT), nx cod_X7_stop cut_X7_stop K (n + 1) 25 L st S = (O_ald aW 0) (nx cod_X7_stop cut_X7_stop K n) 25 L st S) ∧
  (∀ (K : Kt QT) (n : Nat) (L : xL) (st : List Value) (S : QT), nx cod_X7_stop cut_X7_stop K (n + 1) 26 L st S = (O_iload 1 1) (nx cod_X7_stop cut_X7_stop K n) 26 L st S) ∧
  (∀ (K : Kt QT) (n : Nat) (L : xL) (st : List Value) (S : QT), nx cod_X7_stop cut_X7_stop K (n + 1) 27 L st S = (O_icmp_ne 37) (nx cod_X7_stop cut_X7_stop K n) 27 L st S) ∧
  (∀ (K : Kt QT) (n : Nat) (L : xL) (st : List Value) (S : QT), nx cod_X7_stop cut_X7_stop K (n + 1) 30 L st S = (O_aload 0 1) (nx cod_X7_stop cut_X7_stop K n) 30 L st S) ∧
  (∀ (K : Kt QT) (n : Nat) (L : xL) (st : List Value) (S : QT), nx cod_X7_stop cut_X7_stop K (n + 1) 31 L st S = (O_callV 0 0 (fun S => S) (fun _ S' => S') sp_X7_nextVariable) (nx cod_X7_stop cut_X7_stop K n) 31 L st S) ∧
  (∀ (K : Kt QT) (n : Nat) (L : xL) (st : List Value) (S : QT), nx cod_X7_stop cut_X7_stop K (n + 1) 34 L st S = (O_goto 43) (nx cod_X7_stop cut_X7_stop K n) 34 L st S) ∧
  (∀ (K : Kt QT) (n : Nat) (L : xL) (st : List Value) (S : QT), nx cod_X7_stop cut_X7_stop K (n + 1) 37 L st S = (O_aload 0 1) (nx cod_X7_stop cut_X7_stop K n) 37 L st S) ∧
  (∀ (K : Kt QT) (n : Nat) (L : xL) (st : List Value) (S : QT), nx cod_X7_stop cut_X7_stop K (n + 1) 38 L st S = (O_getf aW 7 0) (nx cod_X7_stop cut_X7_stop K n) 38 L st S) ∧
  (∀ (K : Kt QT) (n : Nat) (L : xL) (st : List Value) (S : QT), nx cod_X7_stop cut_X7_stop K (n + 1) 41 L st S = (O_int 4 1) (nx cod_X7_stop cut_X7_stop K n) 41 L st S) ∧
  (∀ (K : Kt QT) (n : Nat) (L : xL) (st : List Value) (S : QT), nx cod_X7_stop cut_X7_stop K (n + 1) 42 L st S = (O_ald aW 0) (nx cod_X7_stop cut_X7_stop K n) 42 L st S) ∧
  (∀ (K : Kt QT) (n : Nat) (L : xL) (st : List Value) (S : QT), nx cod_X7_stop cut_X7_stop K (n + 1) 43 L st S = (O_asti aW aW_wi) (nx cod_X7_stop cut_X7_stop K n) 43 L st S) ∧
  (∀ (K : Kt QT) (n : Nat) (L : xL) (st : List Value) (S : QT), nx cod_X7_stop cut_X7_stop K (n + 1) 44 L st S = (O_aload 0 1) (nx cod_X7_stop cut_X7_stop K n) 44 L st S) ∧
  (∀ (K : Kt QT) (n : Nat) (L : xL) (st : List Value) (S : QT), nx cod_X7_stop cut_X7_stop K (n + 1) 45 L st S = (O_int 1 1) (nx cod_X7_stop cut_X7_stop K n) 45 L st S) ∧
  (∀ (K : Kt QT) (n : Nat) (L : xL) (st : List Value) (S : QT), nx cod_X7_stop cut_X7_stop K (n + 1) 46 L st S = (O_iload 1 1) (nx cod_X7_stop cut_X7_stop K n) 46 L st S) ∧
  (∀ (K : Kt QT) (n : Nat) (L : xL) (st : List Value) (S : QT), nx cod_X7_stop cut_X7_stop K (n + 1) 47 L st S = (O_callV 2 0 (fun S => S) (fun _ S' => S') spa_X7_event) (nx cod_X7_stop cut_X7_stop K n) 47 L st S) ∧
  (∀ (K : Kt QT) (n : Nat) (L : xL) (st : List Value) (S : QT), nx cod_X7_stop cut_X7_stop K (n + 1) 50 L st S = (O_vret) (nx cod_X7_stop cut_X7_stop K n) 50 L st S) ∧
  (∀ (K : Kt QT) (n : Nat) (L : xL) (st : List Value) (S : QT), nx cod_X7_stop cut_X7_stop K (n + 1) 100000 L st S = K 100000 L st S) := by
  repeat' apply And.intro
  all_goals (intros; rfl)
set_option maxRecDepth 100000 in
theorem mk_X7_stop {P P' : QT} {r : Option Value} {p0 : Int32} (body : ∀ E : En, CodOk E aW cod_X7_stop → Gd E aW 100000 [] r.toList P' → Gd E aW 0 [some (.ref 0), some (.int p0)] [] P) : Con yX7_stop cX7_stop 2 none 3 aW [.ref 0, .int p0] P r P' :=
  Con.of (by decide) ((aW_len P').trans (aW_len P).symm) rfl (Nat.le_of_ble_eq_true rfl) (fun E F G hr => body E (okc_X7_stop F G) hr)
set_option maxRecDepth 10000 in
theorem con_X7_stop (S : ST) (M : MT) (fl : Bool) (p : Int32) (hp : S.P.inv ∧ S.E.rm ∧ S.P.runs p = true) : Con yX7_stop cX7_stop 2 none 3 aW [.ref 0, .int p] (S, M, fl) (none) ((S.stop p, M.ev fl 1, fl)) := by
  refine mk_X7_stop (fun E C hr => ?_)
  obtain ⟨hi, hE, hru⟩ := hp
  obtain ⟨hh, _⟩ := PT.runs_has hru
  have hv := PT.has_in hi.1 hh
  have ho := hi.1
  have e : S.stop p = (S.sP (if S.P.vrb = p then ((S.P.sSpeeds (upd S.P.speeds p.toNatClampNeg 0)).sSince (upd S.P.since p.toNatClampNeg 0)).sVrb ((S.P.sSpeeds (upd S.P.speeds p.toNatClampNeg 0)).sSince (upd S.P.since p.toNatClampNeg 0)).nextVar else ((S.P.sSpeeds (upd S.P.speeds p.toNatClampNeg 0)).sSince (upd S.P.since p.toNatClampNeg 0)))).event 1 p := by
    unfold ST.stop
    rw [if_pos hru]
    unfold PT.stop
    rw [if_neg (by rw [hh]; decide)]
    by_cases c : S.P.vrb = p
    · rw [if_pos c, if_pos c.symm]
    · rw [if_neg c, if_neg (fun z => c z.symm)]
  have e2 : ((S.P.sSpeeds (upd S.P.speeds p.toNatClampNeg 0)).sSince (upd S.P.since p.toNatClampNeg 0)).sVrb S.P.vrb = ((S.P.sSpeeds (upd S.P.speeds p.toNatClampNeg 0)).sSince (upd S.P.since p.toNatClampNeg 0)) := rfl
  rw [e] at hr
  clear e hi hru hh
  (refine nx_ok C (cuts := cut_X7_stop) 1000 _ _ _ _ ?_; simp only [w_X7_stop, ops_eq, xst_eq, call_eq, oK_eq, Option.toList_some, Option.toList_none, List.cons_append, List.nil_append, List.length_cons, List.length_nil, true_and, and_true, Nat.reduceAdd, aW_F, aW_A, aW_P, aW_w, abs_eq, O_asti_eq, v170, cl_eq, ST_id, MT_gs, ST_gs, PT_gs, ZT_gs, NT_gs, ET_gs, se_X7_put, se_X7_nextVariable, sea_X7_event, v8_eq, hv, hE, get_eq, put_eq, PT_ok, ho, e2])
  ((repeat' (with_reducible first | apply And.intro | intro _)) <;> simp_all [ST_id, MT_gs, ST_gs, PT_gs, ZT_gs, NT_gs, ET_gs])
def spc_X7_stop (S : ST) (M : MT) (fl : Bool) (p : Int32) (K : Option Value → QT → Prop) : Prop := (S.P.inv ∧ S.E.rm ∧ S.P.runs p = true) ∧ K (none) ((S.stop p, M.ev fl 1, fl))
def sp_X7_stop : Sp QT := fun av q K => match av with
  | [.ref 0, .int p] => spc_X7_stop q.1 q.2.1 q.2.2 p K
  | _ => False
theorem se_X7_stop (S : ST) (M : MT) (fl : Bool) (p : Int32) (K : Option Value → QT → Prop) : sp_X7_stop [.ref 0, .int p] (S, M, fl) K = ((S.P.inv ∧ S.E.rm ∧ S.P.runs p = true) ∧ K (none) ((S.stop p, M.ev fl 1, fl))) := rfl
theorem spok_X7_stop : SpOk yX7_stop cX7_stop 2 none 3 aW sp_X7_stop := by
  intro av q K h
  unfold sp_X7_stop at h
  split at h
  · rename_i p; refine ⟨_, _, ?_, con_X7_stop q.1 q.2.1 q.2.2 p h.1, h.2⟩; trivial
  · exact h.elim
theorem PT.serv_inv {S : PT} (h : S.inv) {p : Int32} (hh : S.has p = true) {x : Int32} (hx : b01 x) : (S.sInService (upd S.inService p.toNatClampNeg x)).inv := by
  obtain ⟨i, hi, e1, e2⟩ := PT.has_n h.1 hh
  rw [e2]
  refine PT.inv_of h rfl (fun j hj => ?_) (fun j hj w => ?_) h.2.2.2
  · obtain ⟨h1, h2, h3, h4, h5⟩ := h.2.1 j hj
    refine ⟨h1, h2, h3, ?_, h5⟩
    show b01 (upd S.inService i x j)
    unfold upd
    split
    · exact hx
    · exact h4
  · have hj2 : j ≠ i := by omega
    unfold PT.get
    split
    · rfl
    · rfl
    · rfl
    · exact upd_off _ _ hj2
    · rfl
    · rfl
    · rfl
    · rfl
def MT.evs (M : MT) (fl c : Bool) (k : Int32) : MT := if c = true then M.ev fl k else M
def cod_X7_serves : List (Nat × Op QT) := [(0, O_iload 2 1), (1, O_if_ne 16), (4, O_aload 0 1), (5, O_iload 1 1), (6, O_callV 1 0 (fun S => S) (fun _ S' => S') sp_X7_runs), (9, O_if_eq 16), (12, O_int 1 1), (13, O_goto 17), (16, O_int 0 1), (17, O_istore 3 1), (18, O_aload 0 1), (19, O_iload 1 1), (20, O_int 3 1), (21, O_iload 2 1), (22, O_callV 3 0 (fun S => S) (fun _ S' => S') sp_X7_put), (25, O_iload 3 1), (26, O_if_eq 34), (29, O_aload 0 1), (30, O_iload 1 1), (31, O_callV 1 0 (fun S => S) (fun _ S' => S') sp_X7_stop), (34, O_iload 3 1), (35, O_if_eq 42), (38, O_int 1 1), (39, O_goto 43), (42, O_int 0 1), (43, O_iret)]
abbrev cut_X7_serves : List Nat := []
set_option maxRecDepth 100000 in
theorem okc_X7_serves {E : En} (F : Fx E RX7 cX7_serves 4 4) (G : Fr E (some .int)) : CodOk E aW cod_X7_serves := by
  unfold CodOk cod_X7_serves
  refine List.forall_mem_cons.mpr ⟨ok_iload_n F dX7_serves_0 rfl (by decide), ?_⟩
  refine List.forall_mem_cons.mpr ⟨ok_if_ne F dX7_serves_1 (by decide) (by decide) (by decide), ?_⟩
  refine List.forall_mem_cons.mpr ⟨ok_aload_n F dX7_serves_4 rfl (by decide), ?_⟩
  refine List.forall_mem_cons.mpr ⟨ok_iload_n F dX7_serves_5 rfl (by decide), ?_⟩
  refine List.forall_mem_cons.mpr ⟨ok_callV F spok_X7_runs (ln_id aW) rcv_aW (by decide +kernel) (by decide) dX7_serves_6 (by decide), ?_⟩
  refine List.forall_mem_cons.mpr ⟨ok_if_eq F dX7_serves_9 (by decide) (by decide) (by decide), ?_⟩
  refine List.forall_mem_cons.mpr ⟨ok_iconst F dX7_serves_12 (by decide) (by decide), ?_⟩
  refine List.forall_mem_cons.mpr ⟨ok_goto F dX7_serves_13 (by decide) (by decide) (by decide), ?_⟩
  refine List.forall_mem_cons.mpr ⟨ok_iconst F dX7_serves_16 (by decide) (by decide), ?_⟩
  refine List.forall_mem_cons.mpr ⟨ok_istore_n F dX7_serves_17 rfl (by decide) (by decide), ?_⟩
  refine List.forall_mem_cons.mpr ⟨ok_aload_n F dX7_serves_18 rfl (by decide), ?_⟩
  refine List.forall_mem_cons.mpr ⟨ok_iload_n F dX7_serves_19 rfl (by decide), ?_⟩
  refine List.forall_mem_cons.mpr ⟨ok_iconst F dX7_serves_20 (by decide) (by decide), ?_⟩
  refine List.forall_mem_cons.mpr ⟨ok_iload_n F dX7_serves_21 rfl (by decide), ?_⟩
  refine List.forall_mem_cons.mpr ⟨ok_callV F spok_X7_put (ln_id aW) rcv_aW (by decide +kernel) (by decide) dX7_serves_22 (by decide), ?_⟩
  refine List.forall_mem_cons.mpr ⟨ok_iload_n F dX7_serves_25 rfl (by decide), ?_⟩
  refine List.forall_mem_cons.mpr ⟨ok_if_eq F dX7_serves_26 (by decide) (by decide) (by decide), ?_⟩
  refine List.forall_mem_cons.mpr ⟨ok_aload_n F dX7_serves_29 rfl (by decide), ?_⟩
  refine List.forall_mem_cons.mpr ⟨ok_iload_n F dX7_serves_30 rfl (by decide), ?_⟩
  refine List.forall_mem_cons.mpr ⟨ok_callV F spok_X7_stop (ln_id aW) rcv_aW (by decide +kernel) (by decide) dX7_serves_31 (by decide), ?_⟩
  refine List.forall_mem_cons.mpr ⟨ok_iload_n F dX7_serves_34 rfl (by decide), ?_⟩
  refine List.forall_mem_cons.mpr ⟨ok_if_eq F dX7_serves_35 (by decide) (by decide) (by decide), ?_⟩
  refine List.forall_mem_cons.mpr ⟨ok_iconst F dX7_serves_38 (by decide) (by decide), ?_⟩
  refine List.forall_mem_cons.mpr ⟨ok_goto F dX7_serves_39 (by decide) (by decide) (by decide), ?_⟩
  refine List.forall_mem_cons.mpr ⟨ok_iconst F dX7_serves_42 (by decide) (by decide), ?_⟩
  refine List.forall_mem_cons.mpr ⟨ok_iret F G dX7_serves_43 (by decide), ?_⟩
  exact fun _ h => absurd h List.not_mem_nil
set_option maxRecDepth 100000 in
theorem w_X7_serves : (∀ (K : Kt QT) (n : Nat) (L : xL) (st : List Value) (S : QT), nx cod_X7_serves cut_X7_serves K (n + 1) 0 L st S = (O_iload 2 1) (nx cod_X7_serves cut_X7_serves K n) 0 L st S) ∧
  (∀ (K : Kt QT) (n : Nat) (L : xL) (st : List Value) (S : QT), nx cod_X7_serves cut_X7_serves K (n + 1) 1 L st S = (O_if_ne 16) (nx cod_X7_serves cut_X7_serves K n) 1 L st S) ∧
  (∀ (K : Kt QT) (n : Nat) (L : xL) (st : List Value) (S : QT), nx cod_X7_serves cut_X7_serves K (n + 1) 4 L st S = (O_aload 0 1) (nx cod_X7_serves cut_X7_serves K n) 4 L st S) ∧
  (∀ (K : Kt QT) (n : Nat) (L : xL) (st : List Value) (S : QT), nx cod_X7_serves cut_X7_serves K (n + 1) 5 L st S = (O_iload 1 1) (nx cod_X7_serves cut_X7_serves K n) 5 L st S) ∧
  (∀ (K : Kt QT) (n : Nat) (L : xL) (st : List Value) (S : QT), nx cod_X7_serves cut_X7_serves K (n + 1) 6 L st S = (O_callV 1 0 (fun S => S) (fun _ S' => S') sp_X7_runs) (nx cod_X7_serves cut_X7_serves K n) 6 L st S) ∧
  (∀ (K : Kt QT) (n : Nat) (L : xL) (st : List Value) (S : QT), nx cod_X7_serves cut_X7_serves K (n + 1) 9 L st S = (O_if_eq 16) (nx cod_X7_serves cut_X7_serves K n) 9 L st S) ∧
  (∀ (K : Kt QT) (n : Nat) (L : xL) (st : List Value) (S : QT), nx cod_X7_serves cut_X7_serves K (n + 1) 12 L st S = (O_int 1 1) (nx cod_X7_serves cut_X7_serves K n) 12 L st S) ∧
  (∀ (K : Kt QT) (n : Nat) (L : xL) (st : List Value) (S : QT), nx cod_X7_serves cut_X7_serves K (n + 1) 13 L st S = (O_goto 17) (nx cod_X7_serves cut_X7_serves K n) 13 L st S) ∧
  (∀ (K : Kt QT) (n : Nat) (L : xL) (st : List Value) (S : QT), nx cod_X7_serves cut_X7_serves K (n + 1) 16 L st S = (O_int 0 1) (nx cod_X7_serves cut_X7_serves K n) 16 L st S) ∧
  (∀ (K : Kt QT) (n : Nat) (L : xL) (st : List Value) (S : QT), nx cod_X7_serves cut_X7_serves K (n + 1) 17 L st S = (O_istore 3 1) (nx cod_X7_serves cut_X7_serves K n) 17 L st S) ∧
  (∀ (K : Kt QT) (n : Nat) (L : xL) (st : List Value) (S : QT), nx cod_X7_serves cut_X7_serves K (n + 1) 18 L st S = (O_aload 0 1) (nx cod_X7_serves cut_X7_serves K n) 18 L st S) ∧
  (∀ (K : Kt QT) (n : Nat) (L : xL) (st : List Value) (S : QT), nx cod_X7_serves cut_X7_serves K (n + 1) 19 L st S = (O_iload 1 1) (nx cod_X7_serves cut_X7_serves K n) 19 L st S) ∧
  (∀ (K : Kt QT) (n : Nat) (L : xL) (st : List Value) (S : QT), nx cod_X7_serves cut_X7_serves K (n + 1) 20 L st S = (O_int 3 1) (nx cod_X7_serves cut_X7_serves K n) 20 L st S) ∧
  (∀ (K : Kt QT) (n : Nat) (L : xL) (st : List Value) (S : QT), nx cod_X7_serves cut_X7_serves K (n + 1) 21 L st S = (O_iload 2 1) (nx cod_X7_serves cut_X7_serves K n) 21 L st S) ∧
  (∀ (K : Kt QT) (n : Nat) (L : xL) (st : List Value) (S : QT), nx cod_X7_serves cut_X7_serves K (n + 1) 22 L st S = (O_callV 3 0 (fun S => S) (fun _ S' => S') sp_X7_put) (nx cod_X7_serves cut_X7_serves K n) 22 L st S) ∧
  (∀ (K : Kt QT) (n : Nat) (L : xL) (st : List Value) (S : QT), nx cod_X7_serves cut_X7_serves K (n + 1) 25 L st S = (O_iload 3 1) (nx cod_X7_serves cut_X7_serves K n) 25 L st S) ∧
  (∀ (K : Kt QT) (n : Nat) (L : xL) (st : List Value) (S : QT), nx cod_X7_serves cut_X7_serves K (n + 1) 26 L st S = (O_if_eq 34) (nx cod_X7_serves cut_X7_serves K n) 26 L st S) ∧
  (∀ (K : Kt QT) (n : Nat) (L : xL) (st : List Value) (S : QT), nx cod_X7_serves cut_X7_serves K (n + 1) 29 L st S = (O_aload 0 1) (nx cod_X7_serves cut_X7_serves K n) 29 L st S) ∧
  (∀ (K : Kt QT) (n : Nat) (L : xL) (st : List Value) (S : QT), nx cod_X7_serves cut_X7_serves K (n + 1) 30 L st S = (O_iload 1 1) (nx cod_X7_serves cut_X7_serves K n) 30 L st S) ∧
  (∀ (K : Kt QT) (n : Nat) (L : xL) (st : List Value) (S : QT), nx cod_X7_serves cut_X7_serves K (n + 1) 31 L st S = (O_callV 1 0 (fun S => S) (fun _ S' => S') sp_X7_stop) (nx cod_X7_serves cut_X7_serves K n) 31 L st S) ∧
  (∀ (K : Kt QT) (n : Nat) (L : xL) (st : List Value) (S : QT), nx cod_X7_serves cut_X7_serves K (n + 1) 34 L st S = (O_iload 3 1) (nx cod_X7_serves cut_X7_serves K n) 34 L st S) ∧
  (∀ (K : Kt QT) (n : Nat) (L : xL) (st : List Value) (S : QT), nx cod_X7_serves cut_X7_serves K (n + 1) 35 L st S = (O_if_eq 42) (nx cod_X7_serves cut_X7_serves K n) 35 L st S) ∧
  (∀ (K : Kt QT) (n : Nat) (L : xL) (st : List Value) (S : QT), nx cod_X7_serves cut_X7_serves K (n + 1) 38 L st S = (O_int 1 1) (nx cod_X7_serves cut_X7_serves K n) 38 L st S) ∧
  (∀ (K : Kt QT) (n : Nat) (L : xL) (st : List Value) (S : QT), nx cod_X7_serves cut_X7_serves K (n + 1) 39 L st S = (O_goto 43) (nx cod_X7_serves cut_X7_serves K n) 39 L st S) ∧
  (∀ (K : Kt QT) (n : Nat) (L : xL) (st : List Value) (S : QT), nx cod_X7_serves cut_X7_serves K (n + 1) 42 L st S = (O_int 0 1) (nx cod_X7_serves cut_X7_serves K n) 42 L st S) ∧
  (∀ (K : Kt QT) (n : Nat) (L : xL) (st : List Value) (S : QT), nx cod_X7_serves cut_X7_serves K (n + 1) 43 L st S = (O_iret) (nx cod_X7_serves cut_X7_serves K n) 43 L st S) ∧
  (∀ (K : Kt QT) (n : Nat) (L : xL) (st : List Value) (S : QT), nx cod_X7_serves cut_X7_serves K (n + 1) 100000 L st S = K 100000 L st S) := by
  repeat' apply And.intro
  all_goals (intros; rfl)
set_option maxRecDepth 100000 in
theorem mk_X7_serves {P P' : QT} {r : Option Value} {p0 : Int32} {p1 : Int32} (body : ∀ E : En, CodOk E aW cod_X7_serves → Gd E aW 100000 [] r.toList P' → Gd E aW 0 [some (.ref 0), some (.int p0), some (.int p1), none] [] P) : Con yX7_serves cX7_serves 4 (some .int) 4 aW [.ref 0, .int p0, .int p1] P r P' :=
  Con.of (by decide) ((aW_len P').trans (aW_len P).symm) rfl (Nat.le_of_ble_eq_true rfl) (fun E F G hr => body E (okc_X7_serves F G) hr)
set_option maxRecDepth 10000 in
theorem con_X7_serves (S : ST) (M : MT) (fl : Bool) (p : Int32) (is : Int32) (hp : S.inv 1 ∧ S.P.has p = true ∧ b01 is) : Con yX7_serves cX7_serves 4 (some .int) 4 aW [.ref 0, .int p, .int is] (S, M, fl) (some (.int (bI (decide (is = 0) && S.P.runs p)))) ((S.change p is, M.evs fl (decide (is = 0) && S.P.runs p) 1, fl)) := by
  refine mk_X7_serves (fun E C hr => ?_)
  obtain ⟨hi, hh, hb⟩ := hp
  have hv := PT.has_in hi.1.1 hh
  have hE := ST.inv_rm (n := 0) hi
  have hI := PT.serv_inv hi.1 hh hb
  have hr2 : (S.P.sInService (upd S.P.inService p.toNatClampNeg is)).runs p = S.P.runs p := rfl
  have hrun : S.P.run p.toNatClampNeg = S.P.runs p := by unfold PT.runs; rw [hh, Bool.true_and]
  have hc : ∀ q : PT, S.sP q = S.sP q := fun _ => rfl
  have e1 : is = 0 → S.P.runs p = true → S.change p is = (S.sP (S.P.sInService (upd S.P.inService p.toNatClampNeg is))).stop p := fun q _ => if_pos q
  have e2 : ¬ is = 0 → S.change p is = S.sP (S.P.sInService (upd S.P.inService p.toNatClampNeg is)) := fun q => if_neg q
  have e3 : is = 0 → S.P.runs p = false → S.change p is = S.sP (S.P.sInService (upd S.P.inService p.toNatClampNeg is)) := fun q r => by
    unfold ST.change
    rw [if_pos q]
    unfold ST.stop ST.chg
    exact if_neg (by show ¬ S.P.runs p = true; rw [r]; decide)
  by_cases c1 : is = 0
  · subst c1
    cases c2 : S.P.runs p with
    | true =>
      rw [e1 rfl c2] at hr
      have hd : (decide ((0 : Int32) = 0) && S.P.runs p) = true := by rw [c2]; rfl
      rw [hd] at hr
      clear e1 e2 e3 hd hc
      (refine nx_ok C (cuts := cut_X7_serves) 1000 _ _ _ _ ?_; simp only [w_X7_serves, ops_eq, xst_eq, call_eq, oK_eq, Option.toList_some, Option.toList_none, List.cons_append, List.nil_append, List.length_cons, List.length_nil, true_and, and_true, Nat.reduceAdd, aW_F, aW_A, aW_P, aW_w, abs_eq, O_asti_eq, v170, cl_eq, ST_id, MT_gs, ST_gs, PT_gs, ZT_gs, NT_gs, ET_gs, se_X7_runs, se_X7_put, se_X7_stop, v8_eq, bI_eq, hv, hE, hI, hr2, hrun, put_eq, get_eq, c2])
      clear hr2 hrun hI hb hv hE hi hh
      ((repeat' (with_reducible first | apply And.intro | intro _)) <;> simp_all [MT.evs, bI, ST_id, MT_gs, ST_gs, PT_gs, ZT_gs, NT_gs, ET_gs])
    | false =>
      rw [e3 rfl c2] at hr
      have hd : (decide ((0 : Int32) = 0) && S.P.runs p) = false := by rw [c2]; rfl
      rw [hd] at hr
      clear e1 e2 e3 hd hc
      (refine nx_ok C (cuts := cut_X7_serves) 1000 _ _ _ _ ?_; simp only [w_X7_serves, ops_eq, xst_eq, call_eq, oK_eq, Option.toList_some, Option.toList_none, List.cons_append, List.nil_append, List.length_cons, List.length_nil, true_and, and_true, Nat.reduceAdd, aW_F, aW_A, aW_P, aW_w, abs_eq, O_asti_eq, v170, cl_eq, ST_id, MT_gs, ST_gs, PT_gs, ZT_gs, NT_gs, ET_gs, se_X7_runs, se_X7_put, se_X7_stop, v8_eq, bI_eq, hv, hE, hI, hr2, hrun, put_eq, get_eq, c2])
      clear hr2 hrun hI hb hv hE hi hh
      have hr2 : Gd E aW 100000 [] [.int 0] (S.sP (S.P.sInService (upd S.P.inService p.toNatClampNeg 0)), M, fl) := hr
      clear hr c2
      (repeat' (with_reducible first | apply And.intro | intro _)) <;> first | exact hr2 | exact absurd trivial ‹¬True› | exact Nat.zero_le _ | simp_all
  · rw [e2 c1] at hr
    have hd : (decide (is = 0) && S.P.runs p) = false := by simp [c1]
    rw [hd] at hr
    clear e1 e2 e3 hd hc
    (refine nx_ok C (cuts := cut_X7_serves) 1000 _ _ _ _ ?_; simp only [w_X7_serves, ops_eq, xst_eq, call_eq, oK_eq, Option.toList_some, Option.toList_none, List.cons_append, List.nil_append, List.length_cons, List.length_nil, true_and, and_true, Nat.reduceAdd, aW_F, aW_A, aW_P, aW_w, abs_eq, O_asti_eq, v170, cl_eq, ST_id, MT_gs, ST_gs, PT_gs, ZT_gs, NT_gs, ET_gs, se_X7_runs, se_X7_put, se_X7_stop, v8_eq, bI_eq, hv, hE, hI, hr2, hrun, put_eq, get_eq, c1])
    clear hr2 hrun hI hb hv hE hi hh
    have hr2 : Gd E aW 100000 [] [.int 0] (S.sP (S.P.sInService (upd S.P.inService p.toNatClampNeg is)), M, fl) := hr
    clear hr
    (repeat' (with_reducible first | apply And.intro | intro _)) <;> first | exact hr2 | exact absurd trivial ‹¬True› | exact Nat.zero_le _ | simp_all
def spc_X7_serves (S : ST) (M : MT) (fl : Bool) (p : Int32) (is : Int32) (K : Option Value → QT → Prop) : Prop := (S.inv 1 ∧ S.P.has p = true ∧ b01 is) ∧ K (some (.int (bI (decide (is = 0) && S.P.runs p)))) ((S.change p is, M.evs fl (decide (is = 0) && S.P.runs p) 1, fl))
def sp_X7_serves : Sp QT := fun av q K => match av with
  | [.ref 0, .int p, .int is] => spc_X7_serves q.1 q.2.1 q.2.2 p is K
  | _ => False
theorem se_X7_serves (S : ST) (M : MT) (fl : Bool) (p : Int32) (is : Int32) (K : Option Value → QT → Prop) : sp_X7_serves [.ref 0, .int p, .int is] (S, M, fl) K = ((S.inv 1 ∧ S.P.has p = true ∧ b01 is) ∧ K (some (.int (bI (decide (is = 0) && S.P.runs p)))) ((S.change p is, M.evs fl (decide (is = 0) && S.P.runs p) 1, fl))) := rfl
theorem spok_X7_serves : SpOk yX7_serves cX7_serves 4 (some .int) 4 aW sp_X7_serves := by
  intro av q K h
  unfold sp_X7_serves at h
  split at h
  · rename_i p is; refine ⟨_, _, ?_, con_X7_serves q.1 q.2.1 q.2.2 p is h.1, h.2⟩; trivial
  · exact h.elim
