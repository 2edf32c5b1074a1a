/-! ===== a minute ===== -/
theorem PT.countM_size (S : PT) : S.countM.size = S.size := it_inv (fun _ (T : PT) => T.size = S.size) rfl (fun i T hi hT => by unfold PT.cm; split <;> exact hT)
theorem PT.countM_ok (S : PT) : S.countM.ok = S.ok := by
  unfold PT.ok PT.n
  rw [PT.countM_size]
theorem ZT.keep_like (S : ZT) (m : Int32) : S.like (S.keep m) := it_inv (fun _ (T : ZT) => S.like T) ⟨rfl, rfl⟩ (fun i T hi hT => ZT.kp_like hT)
theorem ZT.keep_ok {S : ZT} (h : S.ok) (m : Int32) : (S.keep m).ok := (ZT.ok_of h (ZT.keep_like S m)).1
theorem NT.note_ok {S : NT} (h : S.ok) : S.note.ok := by
  obtain ⟨h1, h2, h3⟩ := h
  have e : S.note.size = (if S.size + 1 < 7 then S.size + 1 else 7) := rfl
  unfold NT.ok NT.n
  rw [e]
  have h4 : nI S.n + 1 = nI (S.n + 1) := nI_1 _
  rw [h1, h4, show (7 : Int32) = nI 7 from rfl]
  have h5 := nI_ltI (a := S.n + 1) (b := 7) (by omega) (by omega)
  by_cases q : S.n + 1 < 7
  · rw [if_pos (h5.mpr q), nI_clamp (by omega)]
    exact ⟨rfl, by omega, by omega⟩
  · rw [if_neg (fun z => q (h5.mp z)), nI_clamp (by omega)]
    exact ⟨rfl, by omega, by omega⟩
theorem ST.event_ok (S : ST) (k p : Int32) : (S.event k p).ok = S.ok := rfl
theorem ST.water_ok {S : ST} (h : S.ok) : S.water.ok := by
  have h1 : S.water1.ok := ⟨(PT.countM_ok S.P).symm ▸ h.1, h.2⟩
  unfold ST.water
  split
  · exact h1
  · exact h1
theorem ST.night2_ok {S : ST} (h : S.ok) : S.night2.ok := by
  unfold ST.night2
  split
  · exact h
  · exact h
theorem ST.night_ok {S : ST} (h : S.ok) : S.night.ok := by
  unfold ST.night
  split
  · exact h
  · split
    · exact h
    · have h2 := ST.night2_ok h
      exact ⟨h2.1, h2.2.1, NT.note_ok h2.2.2⟩
theorem ST.ok_P {S T : ST} (h : S.ok) (hP : T.P.size = S.P.size) (hZ : T.Z = S.Z) (hN : T.N = S.N) : T.ok := by
  refine ⟨(PT.ok_of h.1 hP).1, ?_, ?_⟩
  · rw [hZ]; exact h.2.1
  · rw [hN]; exact h.2.2
/-- what a change of pumps and events leaves -/
def ST.calm (S T : ST) : Prop := T.P.size = S.P.size ∧ T.Z = S.Z ∧ T.N = S.N
theorem ST.calm_rfl (S : ST) : S.calm S := ⟨rfl, rfl, rfl⟩
theorem ST.calm_tr {S T U : ST} (h : S.calm T) (g : T.calm U) : S.calm U := ⟨g.1.trans h.1, g.2.1.trans h.2.1, g.2.2.trans h.2.2⟩
theorem ST.calm_ok {S T : ST} (h : S.ok) (g : S.calm T) : T.ok := ST.ok_P h g.1 g.2.1 g.2.2
theorem ST.calm_set : (∀ (S : ST) (x : Int32), S.calm (S.sToStart x)) ∧ (∀ (S : ST) (x : Int32), S.calm (S.sToStop x)) ∧ (∀ (S : ST) (x : Int32), S.calm (S.sToSleep x)) ∧ (∀ (S : ST) (x : Int32), S.calm (S.sDry x)) ∧ (∀ (S : ST) (x : Int32), S.calm (S.sTrips x)) ∧ (∀ (S : ST) (x : Int32), S.calm (S.sDryMinutes x)) ∧ (∀ (S : ST) (x : ET), S.calm (S.sE x)) := ⟨fun _ _ => ⟨rfl, rfl, rfl⟩, fun _ _ => ⟨rfl, rfl, rfl⟩, fun _ _ => ⟨rfl, rfl, rfl⟩, fun _ _ => ⟨rfl, rfl, rfl⟩, fun _ _ => ⟨rfl, rfl, rfl⟩, fun _ _ => ⟨rfl, rfl, rfl⟩, fun _ _ => ⟨rfl, rfl, rfl⟩⟩
theorem ST.event_calm (S : ST) (k p : Int32) : S.calm (S.event k p) := ST.calm_set.2.2.2.2.2.2 S _
theorem ST.start_calm (S : ST) (p v : Int32) : S.calm (S.start p v) := ⟨PT.start_size _ _ _, rfl, rfl⟩
theorem ST.stop_calm (S : ST) (p : Int32) : S.calm (S.stop p) := by
  unfold ST.stop
  split
  · exact ⟨PT.stop_size _ _, rfl, rfl⟩
  · exact S.calm_rfl
theorem ST.stopAll_calm (S : ST) : S.calm S.stopAll := it_inv (fun _ (T : ST) => S.calm T) S.calm_rfl (fun i T hi h => ST.calm_tr h (ST.stop_calm T _))
theorem ST.goOn_calm (S : ST) : S.calm S.goOn := by
  unfold ST.goOn
  split
  · exact ⟨rfl, rfl, rfl⟩
  · exact S.calm_rfl
theorem ST.watchL_calm (S : ST) : S.calm S.watchL := by
  have h1 : S.calm S.level1 := ST.calm_set.2.2.2.2.2.1 S _
  have h2 : S.level1.calm S.level1.level2 := by
    unfold ST.level2
    split
    · exact ST.calm_tr (ST.stopAll_calm S.level1) (ST.calm_tr (ST.calm_set.2.2.2.1 _ _) (ST.calm_tr (ST.calm_set.2.2.2.2.1 _ _) (ST.event_calm _ _ _)))
    · exact ST.calm_rfl _
  have h3 : S.level1.level2.calm S.level1.level2.level3 := by
    unfold ST.level3
    split
    · exact ST.goOn_calm _
    · exact ST.calm_rfl _
  exact ST.calm_tr h1 (ST.calm_tr h2 h3)
theorem ST.adjust_calm (S : ST) : S.calm S.adjust := by
  unfold ST.adjust
  split
  · exact S.calm_rfl
  · exact ⟨rfl, rfl, rfl⟩
theorem ST.wake_calm (S : ST) : S.calm S.wake := by
  unfold ST.wake
  split
  · exact S.calm_rfl
  · exact ST.calm_tr (ST.start_calm S _ _) (ST.event_calm _ _ _)
theorem ST.cnt_calm (S : ST) : S.calm S.cnt := ST.calm_tr (ST.calm_set.1 S _) (ST.calm_tr (ST.calm_set.2.1 _ _) (ST.calm_set.2.2.1 _ _))
theorem ST.anew_calm (S : ST) : S.calm S.anew := ST.calm_tr (ST.calm_set.1 S _) (ST.calm_tr (ST.calm_set.2.1 _ _) (ST.calm_set.2.2.1 _ _))
theorem ST.cascade_calm (S : ST) : S.calm S.cascade := by
  unfold ST.cascade
  split
  · exact S.calm_rfl
  · refine ST.calm_tr ?_ (ST.anew_calm _)
    unfold ST.cascade1
    split
    · exact ST.start_calm _ _ _
    · split
      · exact ST.stop_calm _ _
      · exact ST.calm_tr (ST.stop_calm S _) (ST.event_calm _ _ _)
theorem ST.rotate_calm (S : ST) : S.calm S.rotate := by
  unfold ST.rotate
  split
  · exact S.calm_rfl
  · exact ST.calm_tr (ST.start_calm S _ _) (ST.calm_tr (ST.event_calm _ _ _) (ST.stop_calm _ _))
theorem ST.chg_calm (S : ST) (p is : Int32) : S.calm (S.chg p is) := ⟨rfl, rfl, rfl⟩
theorem ST.change_calm (S : ST) (p is : Int32) : S.calm (S.change p is) := by
  unfold ST.change
  split
  · exact ST.calm_tr (ST.chg_calm S p is) (ST.stop_calm _ _)
  · exact ST.chg_calm S p is
def ST.tick (S : ST) : ST := (S.sTime (S.time + 1)).sZ (S.Z.keep ((S.time + 1) % 1440))
theorem ST.tick_ok {S : ST} (h : S.ok) : S.tick.ok := ⟨h.1, ZT.keep_ok h.2.1 _, h.2.2⟩
def ST.first (S : ST) : ST := S.tick.water.night.watchL
theorem ST.first_ok {S : ST} (h : S.ok) : S.first.ok := ST.calm_ok (ST.night_ok (ST.water_ok (ST.tick_ok h))) (ST.watchL_calm _)
def ST.second (S : ST) : ST := S.adjust.wake.cnt.cascade.rotate
def ST.minute (S : ST) : ST := if ¬ S.first.dry = 0 then S.first.anew else S.first.second
theorem ST.second_calm (S : ST) : S.calm S.second := ST.calm_tr (ST.adjust_calm _) (ST.calm_tr (ST.wake_calm _) (ST.calm_tr (ST.cnt_calm _) (ST.calm_tr (ST.cascade_calm _) (ST.rotate_calm _))))
theorem ST.minute_ok {S : ST} (h : S.ok) : S.minute.ok := by
  have h1 := ST.first_ok h
  unfold ST.minute
  split
  · exact ST.calm_ok h1 (ST.anew_calm _)
  · exact ST.calm_ok h1 (ST.second_calm _)
def cod_X4_runMinute : List (Nat × Op ST) := [(0, O_aload 0 1), (1, O_dup), (2, O_getf stW 4 5), (5, O_int 1 1), (6, O_iadd), (7, O_puti stW_p4_5), (10, O_aload 0 1), (11, O_getf stW 4 2), (14, O_aload 0 1), (15, O_getf stW 4 5), (18, O_int 1440 3), (21, O_irem), (22, O_callV 1 11 (fun S : ST => S.Z) (fun S u => S.sZ u) sp_X5_keepProgrammes), (25, O_aload 0 1), (26, O_callV 0 0 (fun S => S) (fun _ S' => S') sp_X4_moveWater), (29, O_aload 0 1), (30, O_callV 0 0 (fun S => S) (fun _ S' => S') sp_X4_watchNight), (33, O_aload 0 1), (34, O_callV 0 0 (fun S => S) (fun _ S' => S') sp_X4_watchLevel), (37, O_aload 0 1), (38, O_getf stW 4 11), (41, O_if_eq 49), (44, O_aload 0 1), (45, O_callV 0 0 (fun S => S) (fun _ S' => S') sp_X4_beginMinutesAnew), (48, O_vret), (49, O_aload 0 1), (50, O_callV 0 0 (fun S => S) (fun _ S' => S') sp_X4_adjustSpeed), (53, O_aload 0 1), (54, O_callV 0 0 (fun S => S) (fun _ S' => S') sp_X4_wake), (57, O_aload 0 1), (58, O_callV 0 0 (fun S => S) (fun _ S' => S') sp_X4_countMinutes), (61, O_aload 0 1), (62, O_callV 0 0 (fun S => S) (fun _ S' => S') sp_X4_cascade), (65, O_aload 0 1), (66, O_callV 0 0 (fun S => S) (fun _ S' => S') sp_X4_rotate), (69, O_vret)]
abbrev cut_X4_runMinute : List Nat := []
set_option maxRecDepth 100000 in
theorem okc_X4_runMinute {E : En} (F : Fx E RX4 cX4_runMinute 1 4) (G : Fr E none) : CodOk E stW cod_X4_runMinute := by
  unfold CodOk cod_X4_runMinute
  refine List.forall_mem_cons.mpr ⟨ok_aload_n F dX4_runMinute_0 rfl (by decide), ?_⟩
  refine List.forall_mem_cons.mpr ⟨ok_dup F dX4_runMinute_1 (by decide), ?_⟩
  refine List.forall_mem_cons.mpr ⟨ok_getf F flX4_74 dX4_runMinute_2 (by decide), ?_⟩
  refine List.forall_mem_cons.mpr ⟨ok_iconst F dX4_runMinute_5 (by decide) (by decide), ?_⟩
  refine List.forall_mem_cons.mpr ⟨ok_iadd F dX4_runMinute_6 (by decide), ?_⟩
  refine List.forall_mem_cons.mpr ⟨ok_puti F stW_p4_5_ok (fun _ _ _ h => by cases h; rfl) rfl flX4_74 dX4_runMinute_7 (by decide), ?_⟩
  refine List.forall_mem_cons.mpr ⟨ok_aload_n F dX4_runMinute_10 rfl (by decide), ?_⟩
  refine List.forall_mem_cons.mpr ⟨ok_getf F flX4_33 dX4_runMinute_11 (by decide), ?_⟩
  refine List.forall_mem_cons.mpr ⟨ok_aload_n F dX4_runMinute_14 rfl (by decide), ?_⟩
  refine List.forall_mem_cons.mpr ⟨ok_getf F flX4_74 dX4_runMinute_15 (by decide), ?_⟩
  refine List.forall_mem_cons.mpr ⟨ok_sipush F dX4_runMinute_18 (by decide) (by decide), ?_⟩
  refine List.forall_mem_cons.mpr ⟨ok_irem F dX4_runMinute_21 (by decide), ?_⟩
  refine List.forall_mem_cons.mpr ⟨ok_callV F spok_X5_keepProgrammes ln_st_Z rcv_zW (by decide +kernel) (by decide) dX4_runMinute_22 (by decide), ?_⟩
  refine List.forall_mem_cons.mpr ⟨ok_aload_n F dX4_runMinute_25 rfl (by decide), ?_⟩
  refine List.forall_mem_cons.mpr ⟨ok_callV F spok_X4_moveWater (ln_id stW) rcv_stW (by decide +kernel) (by decide) dX4_runMinute_26 (by decide), ?_⟩
  refine List.forall_mem_cons.mpr ⟨ok_aload_n F dX4_runMinute_29 rfl (by decide), ?_⟩
  refine List.forall_mem_cons.mpr ⟨ok_callV F spok_X4_watchNight (ln_id stW) rcv_stW (by decide +kernel) (by decide) dX4_runMinute_30 (by decide), ?_⟩
  refine List.forall_mem_cons.mpr ⟨ok_aload_n F dX4_runMinute_33 rfl (by decide), ?_⟩
  refine List.forall_mem_cons.mpr ⟨ok_callV F spok_X4_watchLevel (ln_id stW) rcv_stW (by decide +kernel) (by decide) dX4_runMinute_34 (by decide), ?_⟩
  refine List.forall_mem_cons.mpr ⟨ok_aload_n F dX4_runMinute_37 rfl (by decide), ?_⟩
  refine List.forall_mem_cons.mpr ⟨ok_getf F flX4_89 dX4_runMinute_38 (by decide), ?_⟩
  refine List.forall_mem_cons.mpr ⟨ok_if_eq F dX4_runMinute_41 (by decide) (by decide) (by decide), ?_⟩
  refine List.forall_mem_cons.mpr ⟨ok_aload_n F dX4_runMinute_44 rfl (by decide), ?_⟩
  refine List.forall_mem_cons.mpr ⟨ok_callV F spok_X4_beginMinutesAnew (ln_id stW) rcv_stW (by decide +kernel) (by decide) dX4_runMinute_45 (by decide), ?_⟩
  refine List.forall_mem_cons.mpr ⟨ok_vret F G dX4_runMinute_48 (by decide), ?_⟩
  refine List.forall_mem_cons.mpr ⟨ok_aload_n F dX4_runMinute_49 rfl (by decide), ?_⟩
  refine List.forall_mem_cons.mpr ⟨ok_callV F spok_X4_adjustSpeed (ln_id stW) rcv_stW (by decide +kernel) (by decide) dX4_runMinute_50 (by decide), ?_⟩
  refine List.forall_mem_cons.mpr ⟨ok_aload_n F dX4_runMinute_53 rfl (by decide), ?_⟩
  refine List.forall_mem_cons.mpr ⟨ok_callV F spok_X4_wake (ln_id stW) rcv_stW (by decide +kernel) (by decide) dX4_runMinute_54 (by decide), ?_⟩
  refine List.forall_mem_cons.mpr ⟨ok_aload_n F dX4_runMinute_57 rfl (by decide), ?_⟩
  refine List.forall_mem_cons.mpr ⟨ok_callV F spok_X4_countMinutes (ln_id stW) rcv_stW (by decide +kernel) (by decide) dX4_runMinute_58 (by decide), ?_⟩
  refine List.forall_mem_cons.mpr ⟨ok_aload_n F dX4_runMinute_61 rfl (by decide), ?_⟩
  refine List.forall_mem_cons.mpr ⟨ok_callV F spok_X4_cascade (ln_id stW) rcv_stW (by decide +kernel) (by decide) dX4_runMinute_62 (by decide), ?_⟩
  refine List.forall_mem_cons.mpr ⟨ok_aload_n F dX4_runMinute_65 rfl (by decide), ?_⟩
  refine List.forall_mem_cons.mpr ⟨ok_callV F spok_X4_rotate (ln_id stW) rcv_stW (by decide +kernel) (by decide) dX4_runMinute_66 (by decide), ?_⟩
  refine List.forall_mem_cons.mpr ⟨ok_vret F G dX4_runMinute_69 (by decide), ?_⟩
  exact fun _ h => absurd h List.not_mem_nil
set_option maxRecDepth 100000 in
theorem w_X4_runMinute : (∀ (K : Kt ST) (n : Nat) (L : xL) (st : List Value) (S : ST), nx cod_X4_runMinute cut_X4_runMinute K (n + 1) 0 L st S = (O_aload 0 1) (nx cod_X4_runMinute cut_X4_runMinute K n) 0 L st S) ∧
  (∀ (K : Kt ST) (n : Nat) (L : xL) (st : List Value) (S : ST), nx cod_X4_runMinute cut_X4_runMinute K (n + 1) 1 L st S = (O_dup) (nx cod_X4_runMinute cut_X4_runMinute K n) 1 L st S) ∧
  (∀ (K : Kt ST) (n : Nat) (L : xL) (st : List Value) (S : ST), nx cod_X4_runMinute cut_X4_runMinute K (n + 1) 2 L st S = (O_getf stW 4 5) (nx cod_X4_runMinute cut_X4_runMinute K n) 2 L st S) ∧
  (∀ (K : Kt ST) (n : Nat) (L : xL) (st : List Value) (S : ST), nx cod_X4_runMinute cut_X4_runMinute K (n + 1) 5 L st S = (O_int 1 1) (nx cod_X4_runMinute cut_X4_runMinute K n) 5 L st S) ∧
  (∀ (K : Kt ST) (n : Nat) (L : xL) (st : List Value) (S : ST), nx cod_X4_runMinute cut_X4_runMinute K (n + 1) 6 L st S = (O_iadd) (nx cod_X4_runMinute cut_X4_runMinute K n) 6 L st S) ∧
  (∀ (K : Kt ST) (n : Nat) (L : xL) (st : List Value) (S : ST), nx cod_X4_runMinute cut_X4_runMinute K (n + 1) 7 L st S = (O_puti stW_p4_5) (nx cod_X4_runMinute cut_X4_runMinute K n) 7 L st S) ∧
  (∀ (K : Kt ST) (n : Nat) (L : xL) (st : List Value) (S : ST), nx cod_X4_runMinute cut_X4_runMinute K (n + 1) 10 L st S = (O_aload 0 1) (nx cod_X4_runMinute cut_X4_runMinute K n) 10 L st S) ∧
  (∀ (K : Kt ST) (n : Nat) (L : xL) (st : List Value) (S : ST), nx cod_X4_runMinute cut_X4_runMinute K (n + 1) 11 L st S = (O_getf stW 4 2) (nx cod_X4_runMinute cut_X4_runMinute K n) 11 L st S) ∧
  (∀ (K : Kt ST) (n : Nat) (L : xL) (st : List Value) (S : ST), nx cod_X4_runMinute cut_X4_runMinute K (n + 1) 14 L st S = (O_aload 0 1) (nx cod_X4_runMinute cut_X4_runMinute K n) 14 L st S) ∧
  (∀ (K : Kt ST) (n : Nat) (L : xL) (st : List Value) (S : ST), nx cod_X4_runMinute cut_X4_runMinute K (n + 1) 15 L st S = (O_getf stW 4 5) (nx cod_X4_runMinute cut_X4_runMinute K n) 15 L st S) ∧
  (∀ (K : Kt ST) (n : Nat) (L : xL) (st : List Value) (S : ST), nx cod_X4_runMinute cut_X4_runMinute K (n + 1) 18 L st S = (O_int 1440 3) (nx cod_X4_runMinute cut_X4_runMinute K n) 18 L st S) ∧
  (∀ (K : Kt ST) (n : Nat) (L : xL) (st : List Value) (S : ST), nx cod_X4_runMinute cut_X4_runMinute K (n + 1) 21 L st S = (O_irem) (nx cod_X4_runMinute cut_X4_runMinute K n) 21 L st S) ∧
  (∀ (K : Kt ST) (n : Nat) (L : xL) (st : List Value) (S : ST), nx cod_X4_runMinute cut_X4_runMinute K (n + 1) 22 L st S = (O_callV 1 11 (fun S : ST => S.Z) (fun S u => S.sZ u) sp_X5_keepProgrammes) (nx cod_X4_runMinute cut_X4_runMinute K n) 22 L st S) ∧
  (∀ (K : Kt ST) (n : Nat) (L : xL) (st : List Value) (S : ST), nx cod_X4_runMinute cut_X4_runMinute K (n + 1) 25 L st S = (O_aload 0 1) (nx cod_X4_runMinute cut_X4_runMinute K n) 25 L st S) ∧
  (∀ (K : Kt ST) (n : Nat) (L : xL) (st : List Value) (S : ST), nx cod_X4_runMinute cut_X4_runMinute K (n + 1) 26 L st S = (O_callV 0 0 (fun S => S) (fun _ S' => S') sp_X4_moveWater) (nx cod_X4_runMinute cut_X4_runMinute K n) 26 L st S) ∧
  (∀ (K : Kt ST) (n : Nat) (L : xL) (st : List Value) (S : ST), nx cod_X4_runMinute cut_X4_runMinute K (n + 1) 29 L st S = (O_aload 0 1) (nx cod_X4_runMinute cut_X4_runMinute K n) 29 L st S) ∧
  (∀ (K : Kt ST) (n : Nat) (L : xL) (st : List Value) (S : ST), nx cod_X4_runMinute cut_X4_runMinute K (n + 1) 30 L st S = (O_callV 0 0 (fun S => S) (fun _ S' => S') sp_X4_watchNight) (nx cod_X4_runMinute cut_X4_runMinute K n) 30 L st S) ∧
  (∀ (K : Kt ST) (n : Nat) (L : xL) (st : List Value) (S : ST), nx cod_X4_runMinute cut_X4_runMinute K (n + 1) 33 L st S = (O_aload 0 1) (nx cod_X4_runMinute cut_X4_runMinute K n) 33 L st S) ∧
  (∀ (K : Kt ST) (n : Nat) (L : xL) (st : List Value) (S : ST), nx cod_X4_runMinute cut_X4_runMinute K (n + 1) 34 L st S = (O_callV 0 0 (fun S => S) (fun _ S' => S') sp_X4_watchLevel) (nx cod_X4_runMinute cut_X4_runMinute K n) 34 L st S) ∧
  (∀ (K : Kt ST) (n : Nat) (L : xL) (st : List Value) (S : ST), nx cod_X4_runMinute cut_X4_runMinute K (n + 1) 37 L st S = (O_aload 0 1) (nx cod_X4_runMinute cut_X4_runMinute K n) 37 L st S) ∧
  (∀ (K : Kt ST) (n : Nat) (L : xL) (st : List Value) (S : ST), nx cod_X4_runMinute cut_X4_runMinute K (n + 1) 38 L st S = (O_getf stW 4 11) (nx cod_X4_runMinute cut_X4_runMinute K n) 38 L st S) ∧
  (∀ (K : Kt ST) (n : Nat) (L : xL) (st : List Value) (S : ST), nx cod_X4_runMinute cut_X4_runMinute K (n + 1) 41 L st S = (O_if_eq 49) (nx cod_X4_runMinute cut_X4_runMinute K n) 41 L st S) ∧
  (∀ (K : Kt ST) (n : Nat) (L : xL) (st : List Value) (S : ST), nx cod_X4_runMinute cut_X4_runMinute K (n + 1) 44 L st S = (O_aload 0 1) (nx cod_X4_runMinute cut_X4_runMinute K n) 44 L st S) ∧
  (∀ (K : Kt ST) (n : Nat) (L : xL) (st : List Value) (S : ST), nx cod_X4_runMinute cut_X4_runMinute K (n + 1) 45 L st S = (O_callV 0 0 (fun S => S) (fun _ S' => S') sp_X4_beginMinutesAnew) (nx cod_X4_runMinute cut_X4_runMinute K n) 45 L st S) ∧
  (∀ (K : Kt ST) (n : Nat) (L : xL) (st : List Value) (S : ST), nx cod_X4_runMinute cut_X4_runMinute K (n + 1) 48 L st S = (O_vret) (nx cod_X4_runMinute cut_X4_runMinute K n) 48 L st S) ∧
  (∀ (K : Kt ST) (n : Nat) (L : xL) (st : List Value) (S : ST), nx cod_X4_runMinute cut_X4_runMinute K (n + 1) 49 L st S = (O_aload 0 1) (nx cod_X4_runMinute cut_X4_runMinute K n) 49 L st S) ∧
  (∀ (K : Kt ST) (n : Nat) (L : xL) (st : List Value) (S : ST), nx cod_X4_runMinute cut_X4_runMinute K (n + 1) 50 L st S = (O_callV 0 0 (fun S => S) (fun _ S' => S') sp_X4_adjustSpeed) (nx cod_X4_runMinute cut_X4_runMinute K n) 50 L st S) ∧
  (∀ (K : Kt ST) (n : Nat) (L : xL) (st : List Value) (S : ST), nx cod_X4_runMinute cut_X4_runMinute K (n + 1) 53 L st S = (O_aload 0 1) (nx cod_X4_runMinute cut_X4_runMinute K n) 53 L st S) ∧
  (∀ (K : Kt ST) (n : Nat) (L : xL) (st : List Value) (S : ST), nx cod_X4_runMinute cut_X4_runMinute K (n + 1) 54 L st S = (O_callV 0 0 (fun S => S) (fun _ S' => S') sp_X4_wake) (nx cod_X4_runMinute cut_X4_runMinute K n) 54 L st S) ∧
  (∀ (K : Kt ST) (n : Nat) (L : xL) (st : List Value) (S : ST), nx cod_X4_runMinute cut_X4_runMinute K (n + 1) 57 L st S = (O_aload 0 1) (nx cod_X4_runMinute cut_X4_runMinute K n) 57 L st S) ∧
  (∀ (K : Kt ST) (n : Nat) (L : xL) (st : List Value) (S : ST), nx cod_X4_runMinute cut_X4_runMinute K (n + 1) 58 L st S = (O_callV 0 0 (fun S => S) (fun _ S' => S') sp_X4_countMinutes) (nx cod_X4_runMinute cut_X4_runMinute K n) 58 L st S) ∧
  (∀ (K : Kt ST) (n : Nat) (L : xL) (st : List Value) (S : ST), nx cod_X4_runMinute cut_X4_runMinute K (n + 1) 61 L st S = (O_aload 0 1) (nx cod_X4_runMinute cut_X4_runMinute K n) 61 L st S) ∧
  (∀ (K : Kt ST) (n : Nat) (L : xL) (st : List Value) (S : ST), nx cod_X4_runMinute cut_X4_runMinute K (n + 1) 62 L st S = (O_callV 0 0 (fun S => S) (fun _ S' => S') sp_X4_cascade) (nx cod_X4_runMinute cut_X4_runMinute K n) 62 L st S) ∧
  (∀ (K : Kt ST) (n : Nat) (L : xL) (st : List Value) (S : ST), nx cod_X4_runMinute cut_X4_runMinute K (n + 1) 65 L st S = (O_aload 0 1) (nx cod_X4_runMinute cut_X4_runMinute K n) 65 L st S) ∧
  (∀ (K : Kt ST) (n : Nat) (L : xL) (st : List Value) (S : ST), nx cod_X4_runMinute cut_X4_runMinute K (n + 1) 66 L st S = (O_callV 0 0 (fun S => S) (fun _ S' => S') sp_X4_rotate) (nx cod_X4_runMinute cut_X4_runMinute K n) 66 L st S) ∧
  (∀ (K : Kt ST) (n : Nat) (L : xL) (st : List Value) (S : ST), nx cod_X4_runMinute cut_X4_runMinute K (n + 1) 69 L st S = (O_vret) (nx cod_X4_runMinute cut_X4_runMinute K n) 69 L st S) ∧
  (∀ (K : Kt ST) (n : Nat) (L : xL) (st : List Value) (S : ST), nx cod_X4_runMinute cut_X4_runMinute K (n + 1) 100000 L st S = K 100000 L st S) := by
  repeat' apply And.intro
  all_goals (intros; rfl)
set_option maxRecDepth 100000 in
theorem mk_X4_runMinute {P P' : ST} {r : Option Value}  (body : ∀ E : En, CodOk E stW cod_X4_runMinute → Gd E stW 100000 [] r.toList P' → Gd E stW 0 [some (.ref 0)] [] P) : Con yX4_runMinute cX4_runMinute 1 none 4 stW [.ref 0] P r P' :=
  Con.of (by decide) rfl rfl (Nat.le_of_ble_eq_true rfl) (fun E F G hr => body E (okc_X4_runMinute F G) hr)
theorem con_X4_runMinute (S : ST)  (hp : S.ok) : Con yX4_runMinute cX4_runMinute 1 none 4 stW [.ref 0] S (none) (S.minute) := by
  refine mk_X4_runMinute (fun E C hr => ?_)
  have h1 := ST.tick_ok hp
  have h2 := ST.water_ok h1
  have h3 := ST.night_ok h2
  have h4 := ST.first_ok hp
  have h5 := ST.calm_ok h4 (ST.adjust_calm _)
  have h6 := ST.calm_ok h5 (ST.wake_calm _)
  have h7 := ST.calm_ok h6 (ST.cnt_calm _)
  have h8 := ST.calm_ok h7 (ST.cascade_calm _)
  have e1 : (S.sTime (S.time + 1)).sZ (S.Z.keep ((S.time + 1) % 1440)) = S.tick := rfl
  have e2 : S.tick.water.night.watchL = S.first := rfl
  have e3 : S.first.adjust.wake.cnt.cascade.rotate = S.first.second := rfl
  have e4 : ((S.first.sToStart 0).sToStop 0).sToSleep 0 = S.first.anew := rfl
  have hm : S.minute = if ¬ S.first.dry = 0 then S.first.anew else S.first.second := rfl
  rw [hm] at hr
  have hz := hp.2.1
  (refine nx_ok C (cuts := cut_X4_runMinute) 1000 _ _ _ _ ?_; simp only [w_X4_runMinute, ops_eq, xst_eq, call_eq, oK_eq, Option.toList_some, Option.toList_none, List.cons_append, List.nil_append, List.length_cons, List.length_nil, true_and, and_true, Nat.reduceAdd, stW_F, stW_A, stW_S, stW_P, ST_id, ST_gs, PT_gs, ZT_gs, NT_gs, ET_gs, se_X5_keepProgrammes, se_X4_moveWater, se_X4_watchNight, se_X4_watchLevel, se_X4_beginMinutesAnew, se_X4_adjustSpeed, se_X4_wake, se_X4_countMinutes, se_X4_cascade, se_X4_rotate, dv_eq, rem_eq, e1, e2, e3, e4, h1, h2, h3, h3.1, h4.1, h5.1, h6.1, h7.1, h8.1, hz])
  ((repeat' (with_reducible first | apply And.intro | intro _)) <;> simp_all [ST_id, ST_gs, PT_gs, ZT_gs, NT_gs, ET_gs])
def sp_X4_runMinute : Sp ST := fun av S K => match av with
  | [.ref 0] => (S.ok) ∧ K (none) (S.minute)
  | _ => False
theorem se_X4_runMinute  (S : ST) (K : Option Value → ST → Prop) : sp_X4_runMinute [.ref 0] S K = ((S.ok) ∧ K (none) (S.minute)) := rfl
theorem spok_X4_runMinute : SpOk yX4_runMinute cX4_runMinute 1 none 4 stW sp_X4_runMinute := by
  intro av S K h
  unfold sp_X4_runMinute at h
  split at h
  · exact ⟨none, S.minute, trivial, con_X4_runMinute S  h.1, h.2⟩
  · exact h.elim
theorem ST_ext {A B : ST} (h0 : A.settings = B.settings) (h1 : A.P = B.P) (h2 : A.Z = B.Z) (h3 : A.N = B.N) (h4 : A.E = B.E) (h5 : A.time = B.time) (h6 : A.pressure = B.pressure) (h7 : A.level = B.level) (h8 : A.leak = B.leak) (h9 : A.supply = B.supply) (h10 : A.allSupplied = B.allSupplied) (h11 : A.dry = B.dry) (h12 : A.dryMinutes = B.dryMinutes) (h13 : A.trips = B.trips) (h14 : A.toStart = B.toStart) (h15 : A.toStop = B.toStop) (h16 : A.toSleep = B.toSleep) : A = B := Prod.ext h0 (Prod.ext h1 (Prod.ext h2 (Prod.ext h3 (Prod.ext h4 (Prod.ext h5 (Prod.ext h6 (Prod.ext h7 (Prod.ext h8 (Prod.ext h9 (Prod.ext h10 (Prod.ext h11 (Prod.ext h12 (Prod.ext h13 (Prod.ext h14 (Prod.ext h15 h16)))))))))))))))
theorem Gd_fst {E : En} {σ : Type} {W : σ × σ → xW} {pc : Nat} {L : xL} {st : List Value} {X B C : σ} (hr : Gd E W pc L st (B, C)) (e : X = B) : Gd E W pc L st (X, C) := by rw [e]; exact hr
def cod_X4_copyFrom : List (Nat × Op (ST × ST)) := [(0, O_aload 1 1), (1, O_ifnonnull 5), (4, O_vret), (5, O_aload 1 1), (6, O_getf stW2 4 0), (9, O_int 0 1), (10, O_aload 0 1), (11, O_getf stW2 4 0), (14, O_int 0 1), (15, O_int 19 2), (17, O_acopy stW2 stW2_sa), (20, O_aload 0 1), (21, O_getf stW2 4 1), (24, O_aload 1 1), (25, O_getf stW2 4 1), (28, O_callC 2 26 9 (fun S : ST × ST => (S.1.P, S.2.P)) (fun S u => (S.1.sP u.1, S.2.sP u.2)) sp_X3_copyFrom), (31, O_aload 0 1), (32, O_getf stW2 4 2), (35, O_aload 1 1), (36, O_getf stW2 4 2), (39, O_callC 11 35 6 (fun S : ST × ST => (S.1.Z, S.2.Z)) (fun S u => (S.1.sZ u.1, S.2.sZ u.2)) sp_X5_copyFrom), (42, O_aload 0 1), (43, O_getf stW2 4 3), (46, O_aload 1 1), (47, O_getf stW2 4 3), (50, O_callC 17 41 2 (fun S : ST × ST => (S.1.N, S.2.N)) (fun S u => (S.1.sN u.1, S.2.sN u.2)) sp_X1_copyFrom), (53, O_aload 0 1), (54, O_getf stW2 4 4), (57, O_aload 1 1), (58, O_getf stW2 4 4), (61, O_callC 19 43 5 (fun S : ST × ST => (S.1.E, S.2.E)) (fun S u => (S.1.sE u.1, S.2.sE u.2)) sp_X0_copyFrom), (64, O_aload 0 1), (65, O_aload 1 1), (66, O_getf stW2 4 5), (69, O_puti stW2_p4_5), (72, O_aload 0 1), (73, O_aload 1 1), (74, O_getf stW2 4 6), (77, O_puti stW2_p4_6), (80, O_aload 0 1), (81, O_aload 1 1), (82, O_getf stW2 4 7), (85, O_puti stW2_p4_7), (88, O_aload 0 1), (89, O_aload 1 1), (90, O_getf stW2 4 8), (93, O_puti stW2_p4_8), (96, O_aload 0 1), (97, O_aload 1 1), (98, O_getf stW2 4 9), (101, O_puti stW2_p4_9), (104, O_aload 0 1), (105, O_aload 1 1), (106, O_getf stW2 4 10), (109, O_puti stW2_p4_10), (112, O_aload 0 1), (113, O_aload 1 1), (114, O_getf stW2 4 11), (117, O_putn .boolean stW2_p4_11), (120, O_aload 0 1), (121, O_aload 1 1), (122, O_getf stW2 4 12), (125, O_puti stW2_p4_12), (128, O_aload 0 1), (129, O_aload 1 1), (130, O_getf stW2 4 13), (133, O_puti stW2_p4_13), (136, O_aload 0 1), (137, O_aload 1 1), (138, O_getf stW2 4 14), (141, O_puti stW2_p4_14), (144, O_aload 0 1), (145, O_aload 1 1), (146, O_getf stW2 4 15), (149, O_puti stW2_p4_15), (152, O_aload 0 1), (153, O_aload 1 1), (154, O_getf stW2 4 16), (157, O_puti stW2_p4_16), (160, O_vret)]
abbrev cut_X4_copyFrom : List Nat := []
set_option maxRecDepth 100000 in
theorem okc_X4_copyFrom {E : En} (F : Fx E RX4 cX4_copyFrom 2 2) (G : Fr E none) : CodOk E stW2 cod_X4_copyFrom := by
  unfold CodOk cod_X4_copyFrom
  refine List.forall_mem_cons.mpr ⟨ok_aload_n F dX4_copyFrom_0 rfl (by decide), ?_⟩
  refine List.forall_mem_cons.mpr ⟨ok_ifnonnull F dX4_copyFrom_1 (by decide) (by decide) (by decide), ?_⟩
  refine List.forall_mem_cons.mpr ⟨ok_vret F G dX4_copyFrom_4 (by decide), ?_⟩
  refine List.forall_mem_cons.mpr ⟨ok_aload_n F dX4_copyFrom_5 rfl (by decide), ?_⟩
  refine List.forall_mem_cons.mpr ⟨ok_getf F flX4_18 dX4_copyFrom_6 (by decide), ?_⟩
  refine List.forall_mem_cons.mpr ⟨ok_iconst F dX4_copyFrom_9 (by decide) (by decide), ?_⟩
  refine List.forall_mem_cons.mpr ⟨ok_aload_n F dX4_copyFrom_10 rfl (by decide), ?_⟩
  refine List.forall_mem_cons.mpr ⟨ok_getf F flX4_18 dX4_copyFrom_11 (by decide), ?_⟩
  refine List.forall_mem_cons.mpr ⟨ok_iconst F dX4_copyFrom_14 (by decide) (by decide), ?_⟩
  refine List.forall_mem_cons.mpr ⟨ok_bipush F dX4_copyFrom_15 (by decide) (by decide), ?_⟩
  refine List.forall_mem_cons.mpr ⟨ok_acopy F stW2_sar (by decide +kernel) (by decide) dX4_copyFrom_17 (by decide), ?_⟩
  refine List.forall_mem_cons.mpr ⟨ok_aload_n F dX4_copyFrom_20 rfl (by decide), ?_⟩
  refine List.forall_mem_cons.mpr ⟨ok_getf F flX4_26 dX4_copyFrom_21 (by decide), ?_⟩
  refine List.forall_mem_cons.mpr ⟨ok_aload_n F dX4_copyFrom_24 rfl (by decide), ?_⟩
  refine List.forall_mem_cons.mpr ⟨ok_getf F flX4_26 dX4_copyFrom_25 (by decide), ?_⟩
  refine List.forall_mem_cons.mpr ⟨ok_callC F (by decide) spok_X3_copyFrom ln2_st_P rcv_pW (by decide +kernel) (by decide) dX4_copyFrom_28 (by decide), ?_⟩
  refine List.forall_mem_cons.mpr ⟨ok_aload_n F dX4_copyFrom_31 rfl (by decide), ?_⟩
  refine List.forall_mem_cons.mpr ⟨ok_getf F flX4_33 dX4_copyFrom_32 (by decide), ?_⟩
  refine List.forall_mem_cons.mpr ⟨ok_aload_n F dX4_copyFrom_35 rfl (by decide), ?_⟩
  refine List.forall_mem_cons.mpr ⟨ok_getf F flX4_33 dX4_copyFrom_36 (by decide), ?_⟩
  refine List.forall_mem_cons.mpr ⟨ok_callC F (by decide) spok_X5_copyFrom ln2_st_Z rcv_zW (by decide +kernel) (by decide) dX4_copyFrom_39 (by decide), ?_⟩
  refine List.forall_mem_cons.mpr ⟨ok_aload_n F dX4_copyFrom_42 rfl (by decide), ?_⟩
  refine List.forall_mem_cons.mpr ⟨ok_getf F flX4_40 dX4_copyFrom_43 (by decide), ?_⟩
  refine List.forall_mem_cons.mpr ⟨ok_aload_n F dX4_copyFrom_46 rfl (by decide), ?_⟩
  refine List.forall_mem_cons.mpr ⟨ok_getf F flX4_40 dX4_copyFrom_47 (by decide), ?_⟩
  refine List.forall_mem_cons.mpr ⟨ok_callC F (by decide) spok_X1_copyFrom ln2_st_N rcv_nW (by decide +kernel) (by decide) dX4_copyFrom_50 (by decide), ?_⟩
  refine List.forall_mem_cons.mpr ⟨ok_aload_n F dX4_copyFrom_53 rfl (by decide), ?_⟩
  refine List.forall_mem_cons.mpr ⟨ok_getf F flX4_47 dX4_copyFrom_54 (by decide), ?_⟩
  refine List.forall_mem_cons.mpr ⟨ok_aload_n F dX4_copyFrom_57 rfl (by decide), ?_⟩
  refine List.forall_mem_cons.mpr ⟨ok_getf F flX4_47 dX4_copyFrom_58 (by decide), ?_⟩
  refine List.forall_mem_cons.mpr ⟨ok_callC F (by decide) spok_X0_copyFrom ln2_st_E rcv_eW (by decide +kernel) (by decide) dX4_copyFrom_61 (by decide), ?_⟩
  refine List.forall_mem_cons.mpr ⟨ok_aload_n F dX4_copyFrom_64 rfl (by decide), ?_⟩
  refine List.forall_mem_cons.mpr ⟨ok_aload_n F dX4_copyFrom_65 rfl (by decide), ?_⟩
  refine List.forall_mem_cons.mpr ⟨ok_getf F flX4_74 dX4_copyFrom_66 (by decide), ?_⟩
  refine List.forall_mem_cons.mpr ⟨ok_puti F stW2_p4_5_ok (fun _ _ _ h => by cases h; rfl) rfl flX4_74 dX4_copyFrom_69 (by decide), ?_⟩
  refine List.forall_mem_cons.mpr ⟨ok_aload_n F dX4_copyFrom_72 rfl (by decide), ?_⟩
  refine List.forall_mem_cons.mpr ⟨ok_aload_n F dX4_copyFrom_73 rfl (by decide), ?_⟩
  refine List.forall_mem_cons.mpr ⟨ok_getf F flX4_77 dX4_copyFrom_74 (by decide), ?_⟩
  refine List.forall_mem_cons.mpr ⟨ok_puti F stW2_p4_6_ok (fun _ _ _ h => by cases h; rfl) rfl flX4_77 dX4_copyFrom_77 (by decide), ?_⟩
  refine List.forall_mem_cons.mpr ⟨ok_aload_n F dX4_copyFrom_80 rfl (by decide), ?_⟩
  refine List.forall_mem_cons.mpr ⟨ok_aload_n F dX4_copyFrom_81 rfl (by decide), ?_⟩
  refine List.forall_mem_cons.mpr ⟨ok_getf F flX4_51 dX4_copyFrom_82 (by decide), ?_⟩
  refine List.forall_mem_cons.mpr ⟨ok_puti F stW2_p4_7_ok (fun _ _ _ h => by cases h; rfl) rfl flX4_51 dX4_copyFrom_85 (by decide), ?_⟩
  refine List.forall_mem_cons.mpr ⟨ok_aload_n F dX4_copyFrom_88 rfl (by decide), ?_⟩
  refine List.forall_mem_cons.mpr ⟨ok_aload_n F dX4_copyFrom_89 rfl (by decide), ?_⟩
  refine List.forall_mem_cons.mpr ⟨ok_getf F flX4_80 dX4_copyFrom_90 (by decide), ?_⟩
  refine List.forall_mem_cons.mpr ⟨ok_puti F stW2_p4_8_ok (fun _ _ _ h => by cases h; rfl) rfl flX4_80 dX4_copyFrom_93 (by decide), ?_⟩
  refine List.forall_mem_cons.mpr ⟨ok_aload_n F dX4_copyFrom_96 rfl (by decide), ?_⟩
  refine List.forall_mem_cons.mpr ⟨ok_aload_n F dX4_copyFrom_97 rfl (by decide), ?_⟩
  refine List.forall_mem_cons.mpr ⟨ok_getf F flX4_83 dX4_copyFrom_98 (by decide), ?_⟩
  refine List.forall_mem_cons.mpr ⟨ok_puti F stW2_p4_9_ok (fun _ _ _ h => by cases h; rfl) rfl flX4_83 dX4_copyFrom_101 (by decide), ?_⟩
  refine List.forall_mem_cons.mpr ⟨ok_aload_n F dX4_copyFrom_104 rfl (by decide), ?_⟩
  refine List.forall_mem_cons.mpr ⟨ok_aload_n F dX4_copyFrom_105 rfl (by decide), ?_⟩
  refine List.forall_mem_cons.mpr ⟨ok_getf F flX4_86 dX4_copyFrom_106 (by decide), ?_⟩
  refine List.forall_mem_cons.mpr ⟨ok_puti F stW2_p4_10_ok (fun _ _ _ h => by cases h; rfl) rfl flX4_86 dX4_copyFrom_109 (by decide), ?_⟩
  refine List.forall_mem_cons.mpr ⟨ok_aload_n F dX4_copyFrom_112 rfl (by decide), ?_⟩
  refine List.forall_mem_cons.mpr ⟨ok_aload_n F dX4_copyFrom_113 rfl (by decide), ?_⟩
  refine List.forall_mem_cons.mpr ⟨ok_getf F flX4_89 dX4_copyFrom_114 (by decide), ?_⟩
  refine List.forall_mem_cons.mpr ⟨ok_putn F stW2_p4_11_ok (fun _ _ _ h => by cases h; rfl) rfl flX4_89 dX4_copyFrom_117 (by decide), ?_⟩
  refine List.forall_mem_cons.mpr ⟨ok_aload_n F dX4_copyFrom_120 rfl (by decide), ?_⟩
  refine List.forall_mem_cons.mpr ⟨ok_aload_n F dX4_copyFrom_121 rfl (by decide), ?_⟩
  refine List.forall_mem_cons.mpr ⟨ok_getf F flX4_93 dX4_copyFrom_122 (by decide), ?_⟩
  refine List.forall_mem_cons.mpr ⟨ok_puti F stW2_p4_12_ok (fun _ _ _ h => by cases h; rfl) rfl flX4_93 dX4_copyFrom_125 (by decide), ?_⟩
  refine List.forall_mem_cons.mpr ⟨ok_aload_n F dX4_copyFrom_128 rfl (by decide), ?_⟩
  refine List.forall_mem_cons.mpr ⟨ok_aload_n F dX4_copyFrom_129 rfl (by decide), ?_⟩
  refine List.forall_mem_cons.mpr ⟨ok_getf F flX4_96 dX4_copyFrom_130 (by decide), ?_⟩
  refine List.forall_mem_cons.mpr ⟨ok_puti F stW2_p4_13_ok (fun _ _ _ h => by cases h; rfl) rfl flX4_96 dX4_copyFrom_133 (by decide), ?_⟩
  refine List.forall_mem_cons.mpr ⟨ok_aload_n F dX4_copyFrom_136 rfl (by decide), ?_⟩
  refine List.forall_mem_cons.mpr ⟨ok_aload_n F dX4_copyFrom_137 rfl (by decide), ?_⟩
  refine List.forall_mem_cons.mpr ⟨ok_getf F flX4_99 dX4_copyFrom_138 (by decide), ?_⟩
  refine List.forall_mem_cons.mpr ⟨ok_puti F stW2_p4_14_ok (fun _ _ _ h => by cases h; rfl) rfl flX4_99 dX4_copyFrom_141 (by decide), ?_⟩
  refine List.forall_mem_cons.mpr ⟨ok_aload_n F dX4_copyFrom_144 rfl (by decide), ?_⟩
  refine List.forall_mem_cons.mpr ⟨ok_aload_n F dX4_copyFrom_145 rfl (by decide), ?_⟩
  refine List.forall_mem_cons.mpr ⟨ok_getf F flX4_102 dX4_copyFrom_146 (by decide), ?_⟩
  refine List.forall_mem_cons.mpr ⟨ok_puti F stW2_p4_15_ok (fun _ _ _ h => by cases h; rfl) rfl flX4_102 dX4_copyFrom_149 (by decide), ?_⟩
  refine List.forall_mem_cons.mpr ⟨ok_aload_n F dX4_copyFrom_152 rfl (by decide), ?_⟩
  refine List.forall_mem_cons.mpr ⟨ok_aload_n F dX4_copyFrom_153 rfl (by decide), ?_⟩
  refine List.forall_mem_cons.mpr ⟨ok_getf F flX4_105 dX4_copyFrom_154 (by decide), ?_⟩
  refine List.forall_mem_cons.mpr ⟨ok_puti F stW2_p4_16_ok (fun _ _ _ h => by cases h; rfl) rfl flX4_105 dX4_copyFrom_157 (by decide), ?_⟩
  refine List.forall_mem_cons.mpr ⟨ok_vret F G dX4_copyFrom_160 (by decide), ?_⟩
  exact fun _ h => absurd h List.not_mem_nil
set_option maxRecDepth 100000 in
theorem w_X4_copyFrom : (∀ (K : Kt (ST × ST)) (n : Nat) (L : xL) (st : List Value) (S : (ST × ST)), nx cod_X4_copyFrom cut_X4_copyFrom K (n + 1) 0 L st S = (O_aload 1 1) (nx cod_X4_copyFrom cut_X4_copyFrom K n) 0 L st S) ∧
  (∀ (K : Kt (ST × ST)) (n : Nat) (L : xL) (st : List Value) (S : (ST × ST)), nx cod_X4_copyFrom cut_X4_copyFrom K (n + 1) 1 L st S = (O_ifnonnull 5) (nx cod_X4_copyFrom cut_X4_copyFrom K n) 1 L st S) ∧
  (∀ (K : Kt (ST × ST)) (n : Nat) (L : xL) (st : List Value) (S : (ST × ST)), nx cod_X4_copyFrom cut_X4_copyFrom K (n + 1) 4 L st S = (O_vret) (nx cod_X4_copyFrom cut_X4_copyFrom K n) 4 L st S) ∧
  (∀ (K : Kt (ST × ST)) (n : Nat) (L : xL) (st : List Value) (S : (ST × ST)), nx cod_X4_copyFrom cut_X4_copyFrom K (n + 1) 5 L st S = (O_aload 1 1) (nx cod_X4_copyFrom cut_X4_copyFrom K n) 5 L st S) ∧
  (∀ (K : Kt (ST × ST)) (n : Nat) (L : xL) (st : List Value) (S : (ST × ST)), nx cod_X4_copyFrom cut_X4_copyFrom K (n + 1) 6 L st S = (O_getf stW2 4 0) (nx cod_X4_copyFrom cut_X4_copyFrom K n) 6 L st S) ∧
  (∀ (K : Kt (ST × ST)) (n : Nat) (L : xL) (st : List Value) (S : (ST × ST)), nx cod_X4_copyFrom cut_X4_copyFrom K (n + 1) 9 L st S = (O_int 0 1) (nx cod_X4_copyFrom cut_X4_copyFrom K n) 9 L st S) ∧
  (∀ (K : Kt (ST × ST)) (n : Nat) (L : xL) (st : List Value) (S : (ST × ST)), nx cod_X4_copyFrom cut_X4_copyFrom K (n + 1) 10 L st S = (O_aload 0 1) (nx cod_X4_copyFrom cut_X4_copyFrom K n) 10 L st S) ∧
  (∀ (K : Kt (ST × ST)) (n : Nat) (L : xL) (st : List Value) (S : (ST × ST)), nx cod_X4_copyFrom cut_X4_copyFrom K (n + 1) 11 L st S = (O_getf stW2 4 0) (nx cod_X4_copyFrom cut_X4_copyFrom K n) 11 L st S) ∧
  (∀ (K : Kt (ST × ST)) (n : Nat) (L : xL) (st : List Value) (S : (ST × ST)), nx cod_X4_copyFrom cut_X4_copyFrom K (n + 1) 14 L st S = (O_int 0 1) (nx cod_X4_copyFrom cut_X4_copyFrom K n) 14 L st S) ∧
  (∀ (K : Kt (ST × ST)) (n : Nat) (L : xL) (st : List Value) (S : (ST × ST)), nx cod_X4_copyFrom cut_X4_copyFrom K (n + 1) 15 L st S = (O_int 19 2) (nx cod_X4_copyFrom cut_X4_copyFrom K n) 15 L st S) ∧
  (∀ (K : Kt (ST × ST)) (n : Nat) (L : xL) (st : List Value) (S : (ST × ST)), nx cod_X4_copyFrom cut_X4_copyFrom K (n + 1) 17 L st S = (O_acopy stW2 stW2_sa) (nx cod_X4_copyFrom cut_X4_copyFrom K n) 17 L st S) ∧
  (∀ (K : Kt (ST × ST)) (n : Nat) (L : xL) (st : List Value) (S : (ST × ST)), nx cod_X4_copyFrom cut_X4_copyFrom K (n + 1) 20 L st S = (O_aload 0 1) (nx cod_X4_copyFrom cut_X4_copyFrom K n) 20 L st S) ∧
  (∀ (K : Kt (ST × ST)) (n : Nat) (L : xL) (st : List Value) (S : (ST × ST)), nx cod_X4_copyFrom cut_X4_copyFrom K (n + 1) 21 L st S = (O_getf stW2 4 1) (nx cod_X4_copyFrom cut_X4_copyFrom K n) 21 L st S) ∧
  (∀ (K : Kt (ST × ST)) (n : Nat) (L : xL) (st : List Value) (S : (ST × ST)), nx cod_X4_copyFrom cut_X4_copyFrom K (n + 1) 24 L st S = (O_aload 1 1) (nx cod_X4_copyFrom cut_X4_copyFrom K n) 24 L st S) ∧
  (∀ (K : Kt (ST × ST)) (n : Nat) (L : xL) (st : List Value) (S : (ST × ST)), nx cod_X4_copyFrom cut_X4_copyFrom K (n + 1) 25 L st S = (O_getf stW2 4 1) (nx cod_X4_copyFrom cut_X4_copyFrom K n) 25 L st S) ∧
  (∀ (K : Kt (ST × ST)) (n : Nat) (L : xL) (st : List Value) (S : (ST × ST)), nx cod_X4_copyFrom cut_X4_copyFrom K (n + 1) 28 L st S = (O_callC 2 26 9 (fun S : ST × ST => (S.1.P, S.2.P)) (fun S u => (S.1.sP u.1, S.2.sP u.2)) sp_X3_copyFrom) (nx cod_X4_copyFrom cut_X4_copyFrom K n) 28 L st S) ∧
  (∀ (K : Kt (ST × ST)) (n : Nat) (L : xL) (st : List Value) (S : (ST × ST)), nx cod_X4_copyFrom cut_X4_copyFrom K (n + 1) 31 L st S = (O_aload 0 1) (nx cod_X4_copyFrom cut_X4_copyFrom K n) 31 L st S) ∧
  (∀ (K : Kt (ST × ST)) (n : Nat) (L : xL) (st : List Value) (S : (ST × ST)), nx cod_X4_copyFrom cut_X4_copyFrom K (n + 1) 32 L st S = (O_getf stW2 4 2) (nx cod_X4_copyFrom cut_X4_copyFrom K n) 32 L st S) ∧
  (∀ (K : Kt (ST × ST)) (n : Nat) (L : xL) (st : List Value) (S : (ST × ST)), nx cod_X4_copyFrom cut_X4_copyFrom K (n + 1) 35 L st S = (O_aload 1 1) (nx cod_X4_copyFrom cut_X4_copyFrom K n) 35 L st S) ∧
  (∀ (K : Kt (ST × ST)) (n : Nat) (L : xL) (st : List Value) (S : (ST × ST)), nx cod_X4_copyFrom cut_X4_copyFrom K (n + 1) 36 L st S = (O_getf stW2 4 2) (nx cod_X4_copyFrom cut_X4_copyFrom K n) 36 L st S) ∧
  (∀ (K : Kt (ST × ST)) (n : Nat) (L : xL) (st : List Value) (S : (ST × ST)), nx cod_X4_copyFrom cut_X4_copyFrom K (n + 1) 39 L st S = (O_callC 11 35 6 (fun S : ST × ST => (S.1.Z, S.2.Z)) (fun S u => (S.1.sZ u.1, S.2.sZ u.2)) sp_X5_copyFrom) (nx cod_X4_copyFrom cut_X4_copyFrom K n) 39 L st S) ∧
  (∀ (K : Kt (ST × ST)) (n : Nat) (L : xL) (st : List Value) (S : (ST × ST)), nx cod_X4_copyFrom cut_X4_copyFrom K (n + 1) 42 L st S = (O_aload 0 1) (nx cod_X4_copyFrom cut_X4_copyFrom K n) 42 L st S) ∧
  (∀ (K : Kt (ST × ST)) (n : Nat) (L : xL) (st : List Value) (S : (ST × ST)), nx cod_X4_copyFrom cut_X4_copyFrom K (n + 1) 43 L st S = (O_getf stW2 4 3) (nx cod_X4_copyFrom cut_X4_copyFrom K n) 43 L st S) ∧
  (∀ (K : Kt (ST × ST)) (n : Nat) (L : xL) (st : List Value) (S : (ST × ST)), nx cod_X4_copyFrom cut_X4_copyFrom K (n + 1) 46 L st S = (O_aload 1 1) (nx cod_X4_copyFrom cut_X4_copyFrom K n) 46 L st S) ∧
  (∀ (K : Kt (ST × ST)) (n : Nat) (L : xL) (st : List Value) (S : (ST × ST)), nx cod_X4_copyFrom cut_X4_copyFrom K (n + 1) 47 L st S = (O_getf stW2 4 3) (nx cod_X4_copyFrom cut_X4_copyFrom K n) 47 L st S) ∧
  (∀ (K : Kt (ST × ST)) (n : Nat) (L : xL) (st : List Value) (S : (ST × ST)), nx cod_X4_copyFrom cut_X4_copyFrom K (n + 1) 50 L st S = (O_callC 17 41 2 (fun S : ST × ST => (S.1.N, S.2.N)) (fun S u => (S.1.sN u.1, S.2.sN u.2)) sp_X1_copyFrom) (nx cod_X4_copyFrom cut_X4_copyFrom K n) 50 L st S) ∧
  (∀ (K : Kt (ST × ST)) (n : Nat) (L : xL) (st : List Value) (S : (ST × ST)), nx cod_X4_copyFrom cut_X4_copyFrom K (n + 1) 53 L st S = (O_aload 0 1) (nx cod_X4_copyFrom cut_X4_copyFrom K n) 53 L st S) ∧
  (∀ (K : Kt (ST × ST)) (n : Nat) (L : xL) (st : List Value) (S : (ST × ST)), nx cod_X4_copyFrom cut_X4_copyFrom K (n + 1) 54 L st S = (O_getf stW2 4 4) (nx cod_X4_copyFrom cut_X4_copyFrom K n) 54 L st S) ∧
  (∀ (K : Kt (ST × ST)) (n : Nat) (L : xL) (st : List Value) (S : (ST × ST)), nx cod_X4_copyFrom cut_X4_copyFrom K (n + 1) 57 L st S = (O_aload 1 1) (nx cod_X4_copyFrom cut_X4_copyFrom K n) 57 L st S) ∧
  (∀ (K : Kt (ST × ST)) (n : Nat) (L : xL) (st : List Value) (S : (ST × ST)), nx cod_X4_copyFrom cut_X4_copyFrom K (n + 1) 58 L st S = (O_getf stW2 4 4) (nx cod_X4_copyFrom cut_X4_copyFrom K n) 58 L st S) ∧
  (∀ (K : Kt (ST × ST)) (n : Nat) (L : xL) (st : List Value) (S : (ST × ST)), nx cod_X4_copyFrom cut_X4_copyFrom K (n + 1) 61 L st S = (O_callC 19 43 5 (fun S : ST × ST => (S.1.E, S.2.E)) (fun S u => (S.1.sE u.1, S.2.sE u.2)) sp_X0_copyFrom) (nx cod_X4_copyFrom cut_X4_copyFrom K n) 61 L st S) ∧
  (∀ (K : Kt (ST × ST)) (n : Nat) (L : xL) (st : List Value) (S : (ST × ST)), nx cod_X4_copyFrom cut_X4_copyFrom K (n + 1) 64 L st S = (O_aload 0 1) (nx cod_X4_copyFrom cut_X4_copyFrom K n) 64 L st S) ∧
  (∀ (K : Kt (ST × ST)) (n : Nat) (L : xL) (st : List Value) (S : (ST × ST)), nx cod_X4_copyFrom cut_X4_copyFrom K (n + 1) 65 L st S = (O_aload 1 1) (nx cod_X4_copyFrom cut_X4_copyFrom K n) 65 L st S) ∧
  (∀ (K : Kt (ST × ST)) (n : Nat) (L : xL) (st : List Value) (S : (ST × ST)), nx cod_X4_copyFrom cut_X4_copyFrom K (n + 1) 66 L st S = (O_getf stW2 4 5) (nx cod_X4_copyFrom cut_X4_copyFrom K n) 66 L st S) ∧
  (∀ (K : Kt (ST × ST)) (n : Nat) (L : xL) (st : List Value) (S : (ST × ST)), nx cod_X4_copyFrom cut_X4_copyFrom K (n + 1) 69 L st S = (O_puti stW2_p4_5) (nx cod_X4_copyFrom cut_X4_copyFrom K n) 69 L st S) ∧
  (∀ (K : Kt (ST × ST)) (n : Nat) (L : xL) (st : List Value) (S : (ST × ST)), nx cod_X4_copyFrom cut_X4_copyFrom K (n + 1) 72 L st S = (O_aload 0 1) (nx cod_X4_copyFrom cut_X4_copyFrom K n) 72 L st S) ∧
  (∀ (K : Kt (ST × ST)) (n : Nat) (L : xL) (st : List Value) (S : (ST × ST)), nx cod_X4_copyFrom cut_X4_copyFrom K (n + 1) 73 L st S = (O_aload 1 1) (nx cod_X4_copyFrom cut_X4_copyFrom K n) 73 L st S) ∧
  (∀ (K : Kt (ST × ST)) (n : Nat) (L : xL) (st : List Value) (S : (ST × ST)), nx cod_X4_copyFrom cut_X4_copyFrom K (n + 1) 74 L st S = (O_getf stW2 4 6) (nx cod_X4_copyFrom cut_X4_copyFrom K n) 74 L st S) ∧
  (∀ (K : Kt (ST × ST)) (n : Nat) (L : xL) (st : List Value) (S : (ST × ST)), nx cod_X4_copyFrom cut_X4_copyFrom K (n + 1) 77 L st S = (O_puti stW2_p4_6) (nx cod_X4_copyFrom cut_X4_copyFrom K n) 77 L st S) ∧
  (∀ (K : Kt (ST × ST)) (n : Nat) (L : xL) (st : List Value) (S : (ST × ST)), nx cod_X4_copyFrom cut_X4_copyFrom K (n + 1) 80 L st S = (O_aload 0 1) (nx cod_X4_copyFrom cut_X4_copyFrom K n) 80 L st S) ∧
  (∀ (K : Kt (ST × ST)) (n : Nat) (L : xL) (st : List Value) (S : (ST × ST)), nx cod_X4_copyFrom cut_X4_copyFrom K (n + 1) 81 L st S = (O_aload 1 1) (nx cod_X4_copyFrom cut_X4_copyFrom K n) 81 L st S) ∧
  (∀ (K : Kt (ST × ST)) (n : Nat) (L : xL) (st : List Value) (S : (ST × ST)), nx cod_X4_copyFrom cut_X4_copyFrom K (n + 1) 82 L st S = (O_getf stW2 4 7) (nx cod_X4_copyFrom cut_X4_copyFrom K n) 82 L st S) ∧
  (∀ (K : Kt (ST × ST)) (n : Nat) (L : xL) (st : List Value) (S : (ST × ST)), nx cod_X4_copyFrom cut_X4_copyFrom K (n + 1) 85 L st S = (O_puti stW2_p4_7) (nx cod_X4_copyFrom cut_X4_copyFrom K n) 85 L st S) ∧
  (∀ (K : Kt (ST × ST)) (n : Nat) (L : xL) (st : List Value) (S : (ST × ST)), nx cod_X4_copyFrom cut_X4_copyFrom K (n + 1) 88 L st S = (O_aload 0 1) (nx cod_X4_copyFrom cut_X4_copyFrom K n) 88 L st S) ∧
  (∀ (K : Kt (ST × ST)) (n : Nat) (L : xL) (st : List Value) (S : (ST × ST)), nx cod_X4_copyFrom cut_X4_copyFrom K (n + 1) 89 L st S = (O_aload 1 1) (nx cod_X4_copyFrom cut_X4_copyFrom K n) 89 L st S) ∧
  (∀ (K : Kt (ST × ST)) (n : Nat) (L : xL) (st : List Value) (S : (ST × ST)), nx cod_X4_copyFrom cut_X4_copyFrom K (n + 1) 90 L st S = (O_getf stW2 4 8) (nx cod_X4_copyFrom cut_X4_copyFrom K n) 90 L st S) ∧
  (∀ (K : Kt (ST × ST)) (n : Nat) (L : xL) (st : List Value) (S : (ST × ST)), nx cod_X4_copyFrom cut_X4_copyFrom K (n + 1) 93 L st S = (O_puti stW2_p4_8) (nx cod_X4_copyFrom cut_X4_copyFrom K n) 93 L st S) ∧
  (∀ (K : Kt (ST × ST)) (n : Nat) (L : xL) (st : List Value) (S : (ST × ST)), nx cod_X4_copyFrom cut_X4_copyFrom K (n + 1) 96 L st S = (O_aload 0 1) (nx cod_X4_copyFrom cut_X4_copyFrom K n) 96 L st S) ∧
  (∀ (K : Kt (ST × ST)) (n : Nat) (L : xL) (st : List Value) (S : (ST × ST)), nx cod_X4_copyFrom cut_X4_copyFrom K (n + 1) 97 L st S = (O_aload 1 1) (nx cod_X4_copyFrom cut_X4_copyFrom K n) 97 L st S) ∧
  (∀ (K : Kt (ST × ST)) (n : Nat) (L : xL) (st : List Value) (S : (ST × ST)), nx cod_X4_copyFrom cut_X4_copyFrom K (n + 1) 98 L st S = (O_getf stW2 4 9) (nx cod_X4_copyFrom cut_X4_copyFrom K n) 98 L st S) ∧
  (∀ (K : Kt (ST × ST)) (n : Nat) (L : xL) (st : List Value) (S : (ST × ST)), nx cod_X4_copyFrom cut_X4_copyFrom K (n + 1) 101 L st S = (O_puti stW2_p4_9) (nx cod_X4_copyFrom cut_X4_copyFrom K n) 101 L st S) ∧
  (∀ (K : Kt (ST × ST)) (n : Nat) (L : xL) (st : List Value) (S : (ST × ST)), nx cod_X4_copyFrom cut_X4_copyFrom K (n + 1) 104 L st S = (O_aload 0 1) (nx cod_X4_copyFrom cut_X4_copyFrom K n) 104 L st S) ∧
  (∀ (K : Kt (ST × ST)) (n : Nat) (L : xL) (st : List Value) (S : (ST × ST)), nx cod_X4_copyFrom cut_X4_copyFrom K (n + 1) 105 L st S = (O_aload 1 1) (nx cod_X4_copyFrom cut_X4_copyFrom K n) 105 L st S) ∧
  (∀ (K : Kt (ST × ST)) (n : Nat) (L : xL) (st : List Value) (S : (ST × ST)), nx cod_X4_copyFrom cut_X4_copyFrom K (n + 1) 106 L st S = (O_getf stW2 4 10) (nx cod_X4_copyFrom cut_X4_copyFrom K n) 106 L st S) ∧
  (∀ (K : Kt (ST × ST)) (n : Nat) (L : xL) (st : List Value) (S : (ST × ST)), nx cod_X4_copyFrom cut_X4_copyFrom K (n + 1) 109 L st S = (O_puti stW2_p4_10) (nx cod_X4_copyFrom cut_X4_copyFrom K n) 109 L st S) ∧
  (∀ (K : Kt (ST × ST)) (n : Nat) (L : xL) (st : List Value) (S : (ST × ST)), nx cod_X4_copyFrom cut_X4_copyFrom K (n + 1) 112 L st S = (O_aload 0 1) (nx cod_X4_copyFrom cut_X4_copyFrom K n) 112 L st S) ∧
  (∀ (K : Kt (ST × ST)) (n : Nat) (L : xL) (st : List Value) (S : (ST × ST)), nx cod_X4_copyFrom cut_X4_copyFrom K (n + 1) 113 L st S = (O_aload 1 1) (nx cod_X4_copyFrom cut_X4_copyFrom K n) 113 L st S) ∧
  (∀ (K : Kt (ST × ST)) (n : Nat) (L : xL) (st : List Value) (S : (ST × ST)), nx cod_X4_copyFrom cut_X4_copyFrom K (n + 1) 114 L st S = (O_getf stW2 4 11) (nx cod_X4_copyFrom cut_X4_copyFrom K n) 114 L st S) ∧
  (∀ (K : Kt (ST × ST)) (n : Nat) (L : xL) (st : List Value) (S : (ST × ST)), nx cod_X4_copyFrom cut_X4_copyFrom K (n + 1) 117 L st S = (O_putn .boolean stW2_p4_11) (nx cod_X4_copyFrom cut_X4_copyFrom K n) 117 L st S) ∧
  (∀ (K : Kt (ST × ST)) (n : Nat) (L : xL) (st : List Value) (S : (ST × ST)), nx cod_X4_copyFrom cut_X4_copyFrom K (n + 1) 120 L st S = (O_aload 0 1) (nx cod_X4_copyFrom cut_X4_copyFrom K n) 120 L st S) ∧
  (∀ (K : Kt (ST × ST)) (n : Nat) (L : xL) (st : List Value) (S : (ST × ST)), nx cod_X4_copyFrom cut_X4_copyFrom K (n + 1) 121 L st S = (O_aload 1 1) (nx cod_X4_copyFrom cut_X4_copyFrom K n) 121 L st S) ∧
  (∀ (K : Kt (ST × ST)) (n : Nat) (L : xL) (st : List Value) (S : (ST × ST)), nx cod_X4_copyFrom cut_X4_copyFrom K (n + 1) 122 L st S = (O_getf stW2 4 12) (nx cod_X4_copyFrom cut_X4_copyFrom K n) 122 L st S) ∧
  (∀ (K : Kt (ST × ST)) (n : Nat) (L : xL) (st : List Value) (S : (ST × ST)), nx cod_X4_copyFrom cut_X4_copyFrom K (n + 1) 125 L st S = (O_puti stW2_p4_12) (nx cod_X4_copyFrom cut_X4_copyFrom K n) 125 L st S) ∧
  (∀ (K : Kt (ST × ST)) (n : Nat) (L : xL) (st : List Value) (S : (ST × ST)), nx cod_X4_copyFrom cut_X4_copyFrom K (n + 1) 128 L st S = (O_aload 0 1) (nx cod_X4_copyFrom cut_X4_copyFrom K n) 128 L st S) ∧
  (∀ (K : Kt (ST × ST)) (n : Nat) (L : xL) (st : List Value) (S : (ST × ST)), nx cod_X4_copyFrom cut_X4_copyFrom K (n + 1) 129 L st S = (O_aload 1 1) (nx cod_X4_copyFrom cut_X4_copyFrom K n) 129 L st S) ∧
  (∀ (K : Kt (ST × ST)) (n : Nat) (L : xL) (st : List Value) (S : (ST × ST)), nx cod_X4_copyFrom cut_X4_copyFrom K (n + 1) 130 L st S = (O_getf stW2 4 13) (nx cod_X4_copyFrom cut_X4_copyFrom K n) 130 L st S) ∧
  (∀ (K : Kt (ST × ST)) (n : Nat) (L : xL) (st : List Value) (S : (ST × ST)), nx cod_X4_copyFrom cut_X4_copyFrom K (n + 1) 133 L st S = (O_puti stW2_p4_13) (nx cod_X4_copyFrom cut_X4_copyFrom K n) 133 L st S) ∧
  (∀ (K : Kt (ST × ST)) (n : Nat) (L : xL) (st : List Value) (S : (ST × ST)), nx cod_X4_copyFrom cut_X4_copyFrom K (n + 1) 136 L st S = (O_aload 0 1) (nx cod_X4_copyFrom cut_X4_copyFrom K n) 136 L st S) ∧
  (∀ (K : Kt (ST × ST)) (n : Nat) (L : xL) (st : List Value) (S : (ST × ST)), nx cod_X4_copyFrom cut_X4_copyFrom K (n + 1) 137 L st S = (O_aload 1 1) (nx cod_X4_copyFrom cut_X4_copyFrom K n) 137 L st S) ∧
  (∀ (K : Kt (ST × ST)) (n : Nat) (L : xL) (st : List Value) (S : (ST × ST)), nx cod_X4_copyFrom cut_X4_copyFrom K (n + 1) 138 L st S = (O_getf stW2 4 14) (nx cod_X4_copyFrom cut_X4_copyFrom K n) 138 L st S) ∧
  (∀ (K : Kt (ST × ST)) (n : Nat) (L : xL) (st : List Value) (S : (ST × ST)), nx cod_X4_copyFrom cut_X4_copyFrom K (n + 1) 141 L st S = (O_puti stW2_p4_14) (nx cod_X4_copyFrom cut_X4_copyFrom K n) 141 L st S) ∧
  (∀ (K : Kt (ST × ST)) (n : Nat) (L : xL) (st : List Value) (S : (ST × ST)), nx cod_X4_copyFrom cut_X4_copyFrom K (n + 1) 144 L st S = (O_aload 0 1) (nx cod_X4_copyFrom cut_X4_copyFrom K n) 144 L st S) ∧
  (∀ (K : Kt (ST × ST)) (n : Nat) (L : xL) (st : List Value) (S : (ST × ST)), nx cod_X4_copyFrom cut_X4_copyFrom K (n + 1) 145 L st S = (O_aload 1 1) (nx cod_X4_copyFrom cut_X4_copyFrom K n) 145 L st S) ∧
  (∀ (K : Kt (ST × ST)) (n : Nat) (L : xL) (st : List Value) (S : (ST × ST)), nx cod_X4_copyFrom cut_X4_copyFrom K (n + 1) 146 L st S = (O_getf stW2 4 15) (nx cod_X4_copyFrom cut_X4_copyFrom K n) 146 L st S) ∧
  (∀ (K : Kt (ST × ST)) (n : Nat) (L : xL) (st : List Value) (S : (ST × ST)), nx cod_X4_copyFrom cut_X4_copyFrom K (n + 1) 149 L st S = (O_puti stW2_p4_15) (nx cod_X4_copyFrom cut_X4_copyFrom K n) 149 L st S) ∧
  (∀ (K : Kt (ST × ST)) (n : Nat) (L : xL) (st : List Value) (S : (ST × ST)), nx cod_X4_copyFrom cut_X4_copyFrom K (n + 1) 152 L st S = (O_aload 0 1) (nx cod_X4_copyFrom cut_X4_copyFrom K n) 152 L st S) ∧
  (∀ (K : Kt (ST × ST)) (n : Nat) (L : xL) (st : List Value) (S : (ST × ST)), nx cod_X4_copyFrom cut_X4_copyFrom K (n + 1) 153 L st S = (O_aload 1 1) (nx cod_X4_copyFrom cut_X4_copyFrom K n) 153 L st S) ∧
  (∀ (K : Kt (ST × ST)) (n : Nat) (L : xL) (st : List Value) (S : (ST × ST)), nx cod_X4_copyFrom cut_X4_copyFrom K (n + 1) 154 L st S = (O_getf stW2 4 16) (nx cod_X4_copyFrom cut_X4_copyFrom K n) 154 L st S) ∧
  (∀ (K : Kt (ST × ST)) (n : Nat) (L : xL) (st : List Value) (S : (ST × ST)), nx cod_X4_copyFrom cut_X4_copyFrom K (n + 1) 157 L st S = (O_puti stW2_p4_16) (nx cod_X4_copyFrom cut_X4_copyFrom K n) 157 L st S) ∧
  (∀ (K : Kt (ST × ST)) (n : Nat) (L : xL) (st : List Value) (S : (ST × ST)), nx cod_X4_copyFrom cut_X4_copyFrom K (n + 1) 160 L st S = (O_vret) (nx cod_X4_copyFrom cut_X4_copyFrom K n) 160 L st S) ∧
  (∀ (K : Kt (ST × ST)) (n : Nat) (L : xL) (st : List Value) (S : (ST × ST)), nx cod_X4_copyFrom cut_X4_copyFrom K (n + 1) 100000 L st S = K 100000 L st S) := by
  repeat' apply And.intro
  all_goals (intros; rfl)
set_option maxRecDepth 100000 in
theorem mk_X4_copyFrom {P P' : (ST × ST)} {r : Option Value}  (body : ∀ E : En, CodOk E stW2 cod_X4_copyFrom → Gd E stW2 100000 [] r.toList P' → Gd E stW2 0 [some (.ref 0), some (.ref 24)] [] P) : Con yX4_copyFrom cX4_copyFrom 2 none 2 stW2 [.ref 0, .ref 24] P r P' :=
  Con.of (by decide) rfl rfl (Nat.le_of_ble_eq_true rfl) (fun E F G hr => body E (okc_X4_copyFrom F G) hr)
theorem con_X4_copyFrom (S : (ST × ST))  (hp : (∀ i, i < 6 → b01 (S.2.P.inService i)) ∧ (∀ i, i < 8 → b01 (S.2.Z.isOpen i)) ∧ b01 S.2.dry) : Con yX4_copyFrom cX4_copyFrom 2 none 2 stW2 [.ref 0, .ref 24] S (none) ((S.2, S.2)) := by
  refine mk_X4_copyFrom (fun E C hr => ?_)
  have hb := b01_fits hp.2.2
  have h1 := hp.1
  have h2 := hp.2.1
  (refine nx_ok C (cuts := cut_X4_copyFrom) 1000 _ _ _ _ ?_; simp only [w_X4_copyFrom, ops_eq, xst_eq, call_eq, oK_eq, Option.toList_some, Option.toList_none, List.cons_append, List.nil_append, List.length_cons, List.length_nil, true_and, and_true, Nat.reduceAdd, stW2_F, stW2_A, stW2_S, stW2_P, acopy_eq, O_callC_eq, ST_id, ST_gs, PT_gs, ZT_gs, NT_gs, ET_gs, se_X3_copyFrom, se_X5_copyFrom, se_X1_copyFrom, se_X0_copyFrom, fits_int, cl_eq, hb])
  ((repeat' (with_reducible first | apply And.intro | intro _)) <;> simp_all [h1, h2, ST_id, ST_gs, PT_gs, ZT_gs, NT_gs, ET_gs])
  exact Gd_fst hr (ST_ext (by simp only [ST_gs]) (by simp only [ST_gs]) (by simp only [ST_gs]) (by simp only [ST_gs]) (by simp only [ST_gs]) (by simp only [ST_gs]) (by simp only [ST_gs]) (by simp only [ST_gs]) (by simp only [ST_gs]) (by simp only [ST_gs]) (by simp only [ST_gs]) (by simp only [ST_gs]) (by simp only [ST_gs]) (by simp only [ST_gs]) (by simp only [ST_gs]) (by simp only [ST_gs]) (by simp only [ST_gs]))
def sp_X4_copyFrom : Sp (ST × ST) := fun av S K => match av with
  | [.ref 0, .ref 24] => ((∀ i, i < 6 → b01 (S.2.P.inService i)) ∧ (∀ i, i < 8 → b01 (S.2.Z.isOpen i)) ∧ b01 S.2.dry) ∧ K (none) ((S.2, S.2))
  | _ => False
theorem se_X4_copyFrom  (S : (ST × ST)) (K : Option Value → (ST × ST) → Prop) : sp_X4_copyFrom [.ref 0, .ref 24] S K = (((∀ i, i < 6 → b01 (S.2.P.inService i)) ∧ (∀ i, i < 8 → b01 (S.2.Z.isOpen i)) ∧ b01 S.2.dry) ∧ K (none) ((S.2, S.2))) := rfl
theorem spok_X4_copyFrom : SpOk yX4_copyFrom cX4_copyFrom 2 none 2 stW2 sp_X4_copyFrom := by
  intro av S K h
  unfold sp_X4_copyFrom at h
  split at h
  · exact ⟨none, (S.2, S.2), trivial, con_X4_copyFrom S  h.1, h.2⟩
  · exact h.elim
