/-! ===== FieldPumps: the calls ===== -/
theorem b01_bI (b : Bool) : b01 (bI b) := by cases b <;> first | exact Or.inl rfl | exact Or.inr rfl
theorem PT.start_serv (S : PT) (p v : Int32) : (S.start p v).inService = S.inService := by
  unfold PT.start
  repeat' (first | rfl | split | dsimp only)
theorem PT.stop_serv (S : PT) (p : Int32) : (S.stop p).inService = S.inService := by
  unfold PT.stop
  repeat' (first | rfl | split | dsimp only)
theorem PT.countM_serv (S : PT) : S.countM.inService = S.inService := it_inv (fun _ (T : PT) => T.inService = S.inService) rfl (fun i T hi hT => by unfold PT.cm; split <;> exact hT)
theorem ZT.bits_set {S : ZT} (h : S.bits) (i : Nat) {x : Int32} (hx : b01 x) : (S.sIsOpen (upd S.isOpen i x)).bits := by
  intro j hj
  show b01 (upd S.isOpen i x j)
  unfold upd
  split
  · exact hx
  · exact h j hj
theorem ZT.keep_bits {S : ZT} (h : S.bits) (m : Int32) : (S.keep m).bits := it_inv (fun _ (T : ZT) => T.bits) h (fun i T hi hT => by
  unfold ZT.kp
  split
  · exact hT
  · split
    · exact ZT.bits_set hT _ (Or.inr rfl)
    · split
      · exact ZT.bits_set hT _ (Or.inl rfl)
      · exact hT)
theorem ST.bits_sP {S : ST} (h : S.bits) {x : PT} (e : x.inService = S.P.inService) : (S.sP x).bits := by
  refine ⟨?_, h.2⟩
  show PT.bits x
  unfold PT.bits
  rw [e]
  exact h.1
theorem ST.bits_set : (∀ (S : ST) (x : Int32), S.bits → (S.sToStart x).bits) ∧ (∀ (S : ST) (x : Int32), S.bits → (S.sToStop x).bits) ∧ (∀ (S : ST) (x : Int32), S.bits → (S.sToSleep x).bits) ∧ (∀ (S : ST) (x : Int32), b01 x → S.bits → (S.sDry x).bits) ∧ (∀ (S : ST) (x : Int32), S.bits → (S.sTrips x).bits) ∧ (∀ (S : ST) (x : Int32), S.bits → (S.sDryMinutes x).bits) ∧ (∀ (S : ST) (k p : Int32), S.bits → (S.event k p).bits) ∧ (∀ (S : ST) (x : NT), S.bits → (S.sN x).bits) ∧ (∀ (S : ST) (x : Int32), S.bits → (S.sSupply x).bits) ∧ (∀ (S : ST) (x : Int32), S.bits → (S.sAllSupplied x).bits) ∧ (∀ (S : ST) (x : Int32), S.bits → (S.sLevel x).bits) ∧ (∀ (S : ST) (x : Int32), S.bits → (S.sPressure x).bits) ∧ (∀ (S : ST) (x : Int32), S.bits → (S.sTime x).bits) ∧ (∀ (S : ST) (x : ZT), x.bits → S.bits → (S.sZ x).bits) :=
  ⟨fun _ _ h => h, fun _ _ h => h, fun _ _ h => h, fun _ _ hx h => ⟨h.1, h.2.1, hx⟩, fun _ _ h => h, fun _ _ h => h, fun _ _ _ h => h, fun _ _ h => h, fun _ _ h => h, fun _ _ h => h, fun _ _ h => h, fun _ _ h => h, fun _ _ h => h, fun _ _ hx h => ⟨h.1, hx, h.2.2⟩⟩
theorem ST.start_bits {S : ST} (h : S.bits) (p v : Int32) : (S.start p v).bits := ST.bits_set.2.2.2.2.2.2.1 _ _ _ (ST.bits_sP h (PT.start_serv _ _ _))
theorem ST.stop_bits {S : ST} (h : S.bits) (p : Int32) : (S.stop p).bits := by
  unfold ST.stop
  split
  · exact ST.bits_set.2.2.2.2.2.2.1 _ _ _ (ST.bits_sP h (PT.stop_serv _ _))
  · exact h
theorem ST.stopAll_bits {S : ST} (h : S.bits) : S.stopAll.bits := it_inv (fun _ (T : ST) => T.bits) h (fun i T hi hT => ST.stop_bits hT _)
theorem ST.goOn_bits {S : ST} (h : S.bits) : S.goOn.bits := by
  unfold ST.goOn
  split
  · exact ST.bits_set.2.2.2.2.2.2.1 _ _ _ (ST.bits_set.2.2.2.1 _ _ (Or.inl rfl) h)
  · exact h
theorem ST.watchL_bits {S : ST} (h : S.bits) : S.watchL.bits := by
  have h1 : S.level1.bits := ST.bits_set.2.2.2.2.2.1 _ _ h
  have h2 : S.level1.level2.bits := by
    unfold ST.level2
    split
    · exact ST.bits_set.2.2.2.2.2.2.1 _ _ _ (ST.bits_set.2.2.2.2.1 _ _ (ST.bits_set.2.2.2.1 _ _ (Or.inr rfl) (ST.stopAll_bits h1)))
    · exact h1
  unfold ST.watchL ST.level3
  split
  · exact ST.goOn_bits h2
  · exact h2
theorem ST.adjust_bits {S : ST} (h : S.bits) : S.adjust.bits := by
  unfold ST.adjust
  split
  · exact h
  · exact ST.bits_sP h rfl
theorem ST.wake_bits {S : ST} (h : S.bits) : S.wake.bits := by
  unfold ST.wake
  split
  · exact h
  · exact ST.bits_set.2.2.2.2.2.2.1 _ _ _ (ST.start_bits h _ _)
theorem ST.anew_bits {S : ST} (h : S.bits) : S.anew.bits := ST.bits_set.2.2.1 _ _ (ST.bits_set.2.1 _ _ (ST.bits_set.1 _ _ h))
theorem ST.cnt_bits {S : ST} (h : S.bits) : S.cnt.bits := ST.bits_set.2.2.1 _ _ (ST.bits_set.2.1 _ _ (ST.bits_set.1 _ _ h))
theorem ST.cascade_bits {S : ST} (h : S.bits) : S.cascade.bits := by
  unfold ST.cascade
  split
  · exact h
  · refine ST.anew_bits ?_
    unfold ST.cascade1
    split
    · exact ST.start_bits h _ _
    · split
      · exact ST.stop_bits h _
      · exact ST.bits_set.2.2.2.2.2.2.1 _ _ _ (ST.stop_bits h _)
theorem ST.rotate_bits {S : ST} (h : S.bits) : S.rotate.bits := by
  unfold ST.rotate
  split
  · exact h
  · exact ST.stop_bits (ST.bits_set.2.2.2.2.2.2.1 _ _ _ (ST.start_bits h _ _)) _
theorem ST.water_bits {S : ST} (h : S.bits) : S.water.bits := by
  have h1 : S.water1.bits := ST.bits_sP (ST.bits_set.2.2.2.2.2.2.2.2.2.2.1 _ _ (ST.bits_set.2.2.2.2.2.2.2.2.2.1 _ _ (ST.bits_set.2.2.2.2.2.2.2.2.1 _ _ h))) (PT.countM_serv S.P)
  unfold ST.water
  split
  · exact ST.bits_set.2.2.2.2.2.2.2.2.2.2.2.1 _ _ h1
  · exact h1
theorem ST.night2_bits {S : ST} (h : S.bits) : S.night2.bits := by
  have h1 : S.night1.bits := ST.bits_set.2.2.2.2.2.2.2.1 _ _ h
  unfold ST.night2
  split
  · exact ST.bits_set.2.2.2.2.2.2.1 _ _ _ (ST.bits_set.2.2.2.2.2.2.2.1 _ _ h1)
  · exact h1
theorem ST.night_bits {S : ST} (h : S.bits) : S.night.bits := by
  unfold ST.night
  split
  · exact h
  · split
    · exact ST.bits_set.2.2.2.2.2.2.2.1 _ _ h
    · exact ST.bits_set.2.2.2.2.2.2.2.1 _ _ (ST.night2_bits h)
theorem ST.minute_bits {S : ST} (h : S.bits) : S.minute.bits := by
  have h0 : S.tick.bits := ST.bits_set.2.2.2.2.2.2.2.2.2.2.2.2.2 _ _ (ZT.keep_bits h.2.1 _) (ST.bits_set.2.2.2.2.2.2.2.2.2.2.2.2.1 _ _ h)
  have h1 : S.first.bits := ST.watchL_bits (ST.night_bits (ST.water_bits h0))
  unfold ST.minute
  split
  · exact ST.anew_bits h1
  · exact ST.rotate_bits (ST.cascade_bits (ST.cnt_bits (ST.wake_bits (ST.adjust_bits h1))))
theorem ST.change_bits {S : ST} (h : S.bits) (p : Int32) {is : Int32} (hi : b01 is) : (S.change p is).bits := by
  have h1 : (S.chg p is).bits := by
    refine ⟨fun j hj => ?_, h.2⟩
    show b01 (upd S.P.inService p.toNatClampNeg is j)
    unfold upd
    split
    · exact hi
    · exact h.1 j hj
  unfold ST.change
  split
  · exact ST.stop_bits h1 _
  · exact h1
def ST.okk (S : ST) : Prop := S.ok ∧ S.bits
theorem ST.minute_okk {S : ST} (h : S.okk) : S.minute.okk := ⟨ST.minute_ok h.1, ST.minute_bits h.2⟩
def ST.mins (S : ST) (k : Nat) : ST := it (fun _ T => T.minute) S k
theorem ST.mins_okk {S : ST} (h : S.okk) (k : Nat) : (S.mins k).okk := it_inv (fun _ (T : ST) => T.okk) h (fun i T hi hT => ST.minute_okk hT)
def FT.good (S : FT) : Prop := S.histOk ∧ S.now.okk ∧ (S.h0.bits ∧ S.h1.bits ∧ S.h2.bits ∧ S.h3.bits) ∧ S.O.ok ∧ S.O.chars
theorem rem1_eq : (∀ S : FT, S.rem1.now = S.now) ∧ (∀ S : FT, S.rem1.trial = S.trial) ∧ (∀ S : FT, S.rem1.O = S.O) := by
  refine ⟨fun S => ?_, fun S => ?_, fun S => ?_⟩
  · exact hPut_eq.1 S (S.pAt S.k) S.now
  · exact hPut_eq.2.1 S (S.pAt S.k) S.now
  · exact hPut_eq.2.2.1 S (S.pAt S.k) S.now
theorem rmb_eq0 : (∀ S : FT, S.remember.now = S.now) ∧ (∀ S : FT, S.remember.trial = S.trial) ∧ (∀ S : FT, S.remember.O = S.O) := by
  refine ⟨fun S => ?_, fun S => ?_, fun S => ?_⟩ <;> unfold FT.remember <;> split
  · exact rem1_eq.1 S
  · exact rem1_eq.1 S.rot
  · exact rem1_eq.2.1 S
  · exact rem1_eq.2.1 S.rot
  · exact rem1_eq.2.2 S
  · exact rem1_eq.2.2 S.rot
theorem rmb_id (S : FT) : S.remember.sNow S.now = S.remember := by
  have h := FT_id.1 S.remember
  rw [rmb_eq0.1] at h
  exact h
theorem rmb_eq : (∀ S : FT, S.remember.now = S.now) ∧ (∀ S : FT, S.remember.trial = S.trial) ∧ (∀ S : FT, S.remember.O = S.O) ∧ (∀ S : FT, S.remember.sNow S.now = S.remember) := ⟨rmb_eq0.1, rmb_eq0.2.1, rmb_eq0.2.2, rmb_id⟩
def okPump (k s t : Int32) : Bool := inR k 0 2 && inR s 100 2000 && inR t 1 1000
theorem flX6_50 : fldOk RX6 50 4 1 = true := by decide +kernel
theorem flX6_54 : fldOk RX6 54 3 8 = true := by decide +kernel
def cod_X6_pump : List (Nat × Op FT) := [(0, O_iload 1 1), (1, O_int 0 1), (2, O_int 2 1), (3, O_callS 3 sp_X6_within), (6, O_if_eq 32), (9, O_iload 2 1), (10, O_int 100 2), (12, O_int 2000 3), (15, O_callS 3 sp_X6_within), (18, O_if_eq 32), (21, O_iload 3 1), (22, O_int 1 1), (23, O_int 1000 3), (26, O_callS 3 sp_X6_within), (29, O_if_ne 35), (32, O_int (-1000001) 2), (34, O_iret), (35, O_aload 0 1), (36, O_getf fpW 6 0), (39, O_getf fpW 4 1), (42, O_getf fpW 3 8), (45, O_int 6 2), (47, O_icmp_lt 53), (50, O_int (-1000003) 2), (52, O_iret), (53, O_aload 0 1), (54, O_callV 0 0 (fun S => S) (fun _ S' => S') sp_X6_remember), (57, O_aload 0 1), (58, O_getf fpW 6 0), (61, O_getf fpW 4 1), (64, O_iload 1 1), (65, O_iload 2 1), (66, O_iload 3 1), (67, O_callV 3 3 (fun S : FT => S.now.P) (fun S u => S.sNow (S.now.sP u)) sp_X3_add), (70, O_iret)]
abbrev cut_X6_pump : List Nat := []
set_option maxRecDepth 100000 in
theorem okc_X6_pump {E : En} (F : Fx E RX6 cX6_pump 4 4) (G : Fr E (some .int)) : CodOk E fpW cod_X6_pump := by
  unfold CodOk cod_X6_pump
  refine List.forall_mem_cons.mpr ⟨ok_iload_n F dX6_pump_0 rfl (by decide), ?_⟩
  refine List.forall_mem_cons.mpr ⟨ok_iconst F dX6_pump_1 (by decide) (by decide), ?_⟩
  refine List.forall_mem_cons.mpr ⟨ok_iconst F dX6_pump_2 (by decide) (by decide), ?_⟩
  refine List.forall_mem_cons.mpr ⟨ok_callS F spok_X6_within (by decide +kernel) rfl (by decide) dX6_pump_3 (by decide), ?_⟩
  refine List.forall_mem_cons.mpr ⟨ok_if_eq F dX6_pump_6 (by decide) (by decide) (by decide), ?_⟩
  refine List.forall_mem_cons.mpr ⟨ok_iload_n F dX6_pump_9 rfl (by decide), ?_⟩
  refine List.forall_mem_cons.mpr ⟨ok_bipush F dX6_pump_10 (by decide) (by decide), ?_⟩
  refine List.forall_mem_cons.mpr ⟨ok_sipush F dX6_pump_12 (by decide) (by decide), ?_⟩
  refine List.forall_mem_cons.mpr ⟨ok_callS F spok_X6_within (by decide +kernel) rfl (by decide) dX6_pump_15 (by decide), ?_⟩
  refine List.forall_mem_cons.mpr ⟨ok_if_eq F dX6_pump_18 (by decide) (by decide) (by decide), ?_⟩
  refine List.forall_mem_cons.mpr ⟨ok_iload_n F dX6_pump_21 rfl (by decide), ?_⟩
  refine List.forall_mem_cons.mpr ⟨ok_iconst F dX6_pump_22 (by decide) (by decide), ?_⟩
  refine List.forall_mem_cons.mpr ⟨ok_sipush F dX6_pump_23 (by decide) (by decide), ?_⟩
  refine List.forall_mem_cons.mpr ⟨ok_callS F spok_X6_within (by decide +kernel) rfl (by decide) dX6_pump_26 (by decide), ?_⟩
  refine List.forall_mem_cons.mpr ⟨ok_if_ne F dX6_pump_29 (by decide) (by decide) (by decide), ?_⟩
  refine List.forall_mem_cons.mpr ⟨ok_ldc F (ix := 41) (wsHas_mem (l := [Jvm.Cond.constant RX6 41 (-1000001)]) (by decide +kernel) (by simp)) dX6_pump_32 (by decide), ?_⟩
  refine List.forall_mem_cons.mpr ⟨ok_iret F G dX6_pump_34 (by decide), ?_⟩
  refine List.forall_mem_cons.mpr ⟨ok_aload_n F dX6_pump_35 rfl (by decide), ?_⟩
  refine List.forall_mem_cons.mpr ⟨ok_getf F flX6_10 dX6_pump_36 (by decide), ?_⟩
  refine List.forall_mem_cons.mpr ⟨ok_getf F flX6_50 dX6_pump_39 (by decide), ?_⟩
  refine List.forall_mem_cons.mpr ⟨ok_getf F flX6_54 dX6_pump_42 (by decide), ?_⟩
  refine List.forall_mem_cons.mpr ⟨ok_bipush F dX6_pump_45 (by decide) (by decide), ?_⟩
  refine List.forall_mem_cons.mpr ⟨ok_icmp_lt F dX6_pump_47 (by decide) (by decide) (by decide), ?_⟩
  refine List.forall_mem_cons.mpr ⟨ok_ldc F (ix := 58) (wsHas_mem (l := [Jvm.Cond.constant RX6 58 (-1000003)]) (by decide +kernel) (by simp)) dX6_pump_50 (by decide), ?_⟩
  refine List.forall_mem_cons.mpr ⟨ok_iret F G dX6_pump_52 (by decide), ?_⟩
  refine List.forall_mem_cons.mpr ⟨ok_aload_n F dX6_pump_53 rfl (by decide), ?_⟩
  refine List.forall_mem_cons.mpr ⟨ok_callV F spok_X6_remember (ln_id fpW) rcv_fpW (by decide +kernel) (by decide) dX6_pump_54 (by decide), ?_⟩
  refine List.forall_mem_cons.mpr ⟨ok_aload_n F dX6_pump_57 rfl (by decide), ?_⟩
  refine List.forall_mem_cons.mpr ⟨ok_getf F flX6_10 dX6_pump_58 (by decide), ?_⟩
  refine List.forall_mem_cons.mpr ⟨ok_getf F flX6_50 dX6_pump_61 (by decide), ?_⟩
  refine List.forall_mem_cons.mpr ⟨ok_iload_n F dX6_pump_64 rfl (by decide), ?_⟩
  refine List.forall_mem_cons.mpr ⟨ok_iload_n F dX6_pump_65 rfl (by decide), ?_⟩
  refine List.forall_mem_cons.mpr ⟨ok_iload_n F dX6_pump_66 rfl (by decide), ?_⟩
  refine List.forall_mem_cons.mpr ⟨ok_callV F spok_X3_add ln_fp_now_P rcv_pW (by decide +kernel) (by decide) dX6_pump_67 (by decide), ?_⟩
  refine List.forall_mem_cons.mpr ⟨ok_iret F G dX6_pump_70 (by decide), ?_⟩
  exact fun _ h => absurd h List.not_mem_nil
set_option maxRecDepth 100000 in
theorem w_X6_pump : (∀ (K : Kt FT) (n : Nat) (L : xL) (st : List Value) (S : FT), nx cod_X6_pump cut_X6_pump K (n + 1) 0 L st S = (O_iload 1 1) (nx cod_X6_pump cut_X6_pump K n) 0 L st S) ∧
  (∀ (K : Kt FT) (n : Nat) (L : xL) (st : List Value) (S : FT), nx cod_X6_pump cut_X6_pump K (n + 1) 1 L st S = (O_int 0 1) (nx cod_X6_pump cut_X6_pump K n) 1 L st S) ∧
  (∀ (K : Kt FT) (n : Nat) (L : xL) (st : List Value) (S : FT), nx cod_X6_pump cut_X6_pump K (n + 1) 2 L st S = (O_int 2 1) (nx cod_X6_pump cut_X6_pump K n) 2 L st S) ∧
  (∀ (K : Kt FT) (n : Nat) (L : xL) (st : List Value) (S : FT), nx cod_X6_pump cut_X6_pump K (n + 1) 3 L st S = (O_callS 3 sp_X6_within) (nx cod_X6_pump cut_X6_pump K n) 3 L st S) ∧
  (∀ (K : Kt FT) (n : Nat) (L : xL) (st : List Value) (S : FT), nx cod_X6_pump cut_X6_pump K (n + 1) 6 L st S = (O_if_eq 32) (nx cod_X6_pump cut_X6_pump K n) 6 L st S) ∧
  (∀ (K : Kt FT) (n : Nat) (L : xL) (st : List Value) (S : FT), nx cod_X6_pump cut_X6_pump K (n + 1) 9 L st S = (O_iload 2 1) (nx cod_X6_pump cut_X6_pump K n) 9 L st S) ∧
  (∀ (K : Kt FT) (n : Nat) (L : xL) (st : List Value) (S : FT), nx cod_X6_pump cut_X6_pump K (n + 1) 10 L st S = (O_int 100 2) (nx cod_X6_pump cut_X6_pump K n) 10 L st S) ∧
  (∀ (K : Kt FT) (n : Nat) (L : xL) (st : List Value) (S : FT), nx cod_X6_pump cut_X6_pump K (n + 1) 12 L st S = (O_int 2000 3) (nx cod_X6_pump cut_X6_pump K n) 12 L st S) ∧
  (∀ (K : Kt FT) (n : Nat) (L : xL) (st : List Value) (S : FT), nx cod_X6_pump cut_X6_pump K (n + 1) 15 L st S = (O_callS 3 sp_X6_within) (nx cod_X6_pump cut_X6_pump K n) 15 L st S) ∧
  (∀ (K : Kt FT) (n : Nat) (L : xL) (st : List Value) (S : FT), nx cod_X6_pump cut_X6_pump K (n + 1) 18 L st S = (O_if_eq 32) (nx cod_X6_pump cut_X6_pump K n) 18 L st S) ∧
  (∀ (K : Kt FT) (n : Nat) (L : xL) (st : List Value) (S : FT), nx cod_X6_pump cut_X6_pump K (n + 1) 21 L st S = (O_iload 3 1) (nx cod_X6_pump cut_X6_pump K n) 21 L st S) ∧
  (∀ (K : Kt FT) (n : Nat) (L : xL) (st : List Value) (S : FT), nx cod_X6_pump cut_X6_pump K (n + 1) 22 L st S = (O_int 1 1) (nx cod_X6_pump cut_X6_pump K n) 22 L st S) ∧
  (∀ (K : Kt FT) (n : Nat) (L : xL) (st : List Value) (S : FT), nx cod_X6_pump cut_X6_pump K (n + 1) 23 L st S = (O_int 1000 3) (nx cod_X6_pump cut_X6_pump K n) 23 L st S) ∧
  (∀ (K : Kt FT) (n : Nat) (L : xL) (st : List Value) (S : FT), nx cod_X6_pump cut_X6_pump K (n + 1) 26 L st S = (O_callS 3 sp_X6_within) (nx cod_X6_pump cut_X6_pump K n) 26 L st S) ∧
  (∀ (K : Kt FT) (n : Nat) (L : xL) (st : List Value) (S : FT), nx cod_X6_pump cut_X6_pump K (n + 1) 29 L st S = (O_if_ne 35) (nx cod_X6_pump cut_X6_pump K n) 29 L st S) ∧
  (∀ (K : Kt FT) (n : Nat) (L : xL) (st : List Value) (S : FT), nx cod_X6_pump cut_X6_pump K (n + 1) 32 L st S = (O_int (-1000001) 2) (nx cod_X6_pump cut_X6_pump K n) 32 L st S) ∧
  (∀ (K : Kt FT) (n : Nat) (L : xL) (st : List Value) (S : FT), nx cod_X6_pump cut_X6_pump K (n + 1) 34 L st S = (O_iret) (nx cod_X6_pump cut_X6_pump K n) 34 L st S) ∧
  (∀ (K : Kt FT) (n : Nat) (L : xL) (st : List Value) (S : FT), nx cod_X6_pump cut_X6_pump K (n + 1) 35 L st S = (O_aload 0 1) (nx cod_X6_pump cut_X6_pump K n) 35 L st S) ∧
  (∀ (K : Kt FT) (n : Nat) (L : xL) (st : List Value) (S : FT), nx cod_X6_pump cut_X6_pump K (n + 1) 36 L st S = (O_getf fpW 6 0) (nx cod_X6_pump cut_X6_pump K n) 36 L st S) ∧
  (∀ (K : Kt FT) (n : Nat) (L : xL) (st : List Value) (S : FT), nx cod_X6_pump cut_X6_pump K (n + 1) 39 L st S = (O_getf fpW 4 1) (nx cod_X6_pump cut_X6_pump K n) 39 L st S) ∧
  (∀ (K : Kt FT) (n : Nat) (L : xL) (st : List Value) (S : FT), nx cod_X6_pump cut_X6_pump K (n + 1) 42 L st S = (O_getf fpW 3 8) (nx cod_X6_pump cut_X6_pump K n) 42 L st S) ∧
  (∀ (K : Kt FT) (n : Nat) (L : xL) (st : List Value) (S : FT), nx cod_X6_pump cut_X6_pump K (n + 1) 45 L st S = (O_int 6 2) (nx cod_X6_pump cut_X6_pump K n) 45 L st S) ∧
  (∀ (K : Kt FT) (n : Nat) (L : xL) (st : List Value) (S : FT), nx cod_X6_pump cut_X6_pump K (n + 1) 47 L st S = (O_icmp_lt 53) (nx cod_X6_pump cut_X6_pump K n) 47 L st S) ∧
  (∀ (K : Kt FT) (n : Nat) (L : xL) (st : List Value) (S : FT), nx cod_X6_pump cut_X6_pump K (n + 1) 50 L st S = (O_int (-1000003) 2) (nx cod_X6_pump cut_X6_pump K n) 50 L st S) ∧
  (∀ (K : Kt FT) (n : Nat) (L : xL) (st : List Value) (S : FT), nx cod_X6_pump cut_X6_pump K (n + 1) 52 L st S = (O_iret) (nx cod_X6_pump cut_X6_pump K n) 52 L st S) ∧
  (∀ (K : Kt FT) (n : Nat) (L : xL) (st : List Value) (S : FT), nx cod_X6_pump cut_X6_pump K (n + 1) 53 L st S = (O_aload 0 1) (nx cod_X6_pump cut_X6_pump K n) 53 L st S) ∧
  (∀ (K : Kt FT) (n : Nat) (L : xL) (st : List Value) (S : FT), nx cod_X6_pump cut_X6_pump K (n + 1) 54 L st S = (O_callV 0 0 (fun S => S) (fun _ S' => S') sp_X6_remember) (nx cod_X6_pump cut_X6_pump K n) 54 L st S) ∧
  (∀ (K : Kt FT) (n : Nat) (L : xL) (st : List Value) (S : FT), nx cod_X6_pump cut_X6_pump K (n + 1) 57 L st S = (O_aload 0 1) (nx cod_X6_pump cut_X6_pump K n) 57 L st S) ∧
  (∀ (K : Kt FT) (n : Nat) (L : xL) (st : List Value) (S : FT), nx cod_X6_pump cut_X6_pump K (n + 1) 58 L st S = (O_getf fpW 6 0) (nx cod_X6_pump cut_X6_pump K n) 58 L st S) ∧
  (∀ (K : Kt FT) (n : Nat) (L : xL) (st : List Value) (S : FT), nx cod_X6_pump cut_X6_pump K (n + 1) 61 L st S = (O_getf fpW 4 1) (nx cod_X6_pump cut_X6_pump K n) 61 L st S) ∧
  (∀ (K : Kt FT) (n : Nat) (L : xL) (st : List Value) (S : FT), nx cod_X6_pump cut_X6_pump K (n + 1) 64 L st S = (O_iload 1 1) (nx cod_X6_pump cut_X6_pump K n) 64 L st S) ∧
  (∀ (K : Kt FT) (n : Nat) (L : xL) (st : List Value) (S : FT), nx cod_X6_pump cut_X6_pump K (n + 1) 65 L st S = (O_iload 2 1) (nx cod_X6_pump cut_X6_pump K n) 65 L st S) ∧
  (∀ (K : Kt FT) (n : Nat) (L : xL) (st : List Value) (S : FT), nx cod_X6_pump cut_X6_pump K (n + 1) 66 L st S = (O_iload 3 1) (nx cod_X6_pump cut_X6_pump K n) 66 L st S) ∧
  (∀ (K : Kt FT) (n : Nat) (L : xL) (st : List Value) (S : FT), nx cod_X6_pump cut_X6_pump K (n + 1) 67 L st S = (O_callV 3 3 (fun S : FT => S.now.P) (fun S u => S.sNow (S.now.sP u)) sp_X3_add) (nx cod_X6_pump cut_X6_pump K n) 67 L st S) ∧
  (∀ (K : Kt FT) (n : Nat) (L : xL) (st : List Value) (S : FT), nx cod_X6_pump cut_X6_pump K (n + 1) 70 L st S = (O_iret) (nx cod_X6_pump cut_X6_pump K n) 70 L st S) ∧
  (∀ (K : Kt FT) (n : Nat) (L : xL) (st : List Value) (S : FT), nx cod_X6_pump cut_X6_pump K (n + 1) 100000 L st S = K 100000 L st S) := by
  repeat' apply And.intro
  all_goals (intros; rfl)
set_option maxRecDepth 100000 in
theorem mk_X6_pump {P P' : FT} {r : Option Value} {p0 : Int32} {p1 : Int32} {p2 : Int32} (body : ∀ E : En, CodOk E fpW cod_X6_pump → Gd E fpW 100000 [] r.toList P' → Gd E fpW 0 [some (.ref 0), some (.int p0), some (.int p1), some (.int p2)] [] P) : Con yX6_pump cX6_pump 4 (some .int) 4 fpW [.ref 0, .int p0, .int p1, .int p2] P r P' :=
  Con.of (by decide) rfl rfl (Nat.le_of_ble_eq_true rfl) (fun E F G hr => body E (okc_X6_pump F G) hr)
set_option maxRecDepth 10000 in
theorem con_X6_pump (S : FT) (k : Int32) (s : Int32) (t : Int32) (hp : S.good) : Con yX6_pump cX6_pump 4 (some .int) 4 fpW [.ref 0, .int k, .int s, .int t] S (some (.int (if okPump k s t = false then -1000001 else if S.now.P.size < 6 then S.now.P.size else -1000003))) (if okPump k s t = true ∧ S.now.P.size < 6 then S.remember.sNow (S.now.sP (S.now.P.add k s t)) else S) := by
  refine mk_X6_pump (fun E C hr => ?_)
  have h1 := hp.1
  have h2 := hp.2.1.2
  have h3 := hp.2.1.1.1
  (refine nx_ok C (cuts := cut_X6_pump) 1000 _ _ _ _ ?_; simp only [w_X6_pump, ops_eq, xst_eq, call_eq, oK_eq, Option.toList_some, Option.toList_none, List.cons_append, List.nil_append, List.length_cons, List.length_nil, true_and, and_true, Nat.reduceAdd, fpW_F, fpW_A, fpW_S, fpW_P, FT_id, ST_id, FT_gs, ST_gs, PT_gs, ZT_gs, NT_gs, ET_gs, OT_gs, se_X6_within, se_X6_remember, se_X3_add, bI_eq, rmb_eq, h1, h2, h3])
  ((repeat' (with_reducible first | apply And.intro | intro _)) <;> simp_all [okPump, FT_id, ST_id, FT_gs, ST_gs, PT_gs, ZT_gs, NT_gs, ET_gs, OT_gs])
def sp_X6_pump : Sp FT := fun av S K => match av with
  | [.ref 0, .int k, .int s, .int t] => (S.good) ∧ K (some (.int (if okPump k s t = false then -1000001 else if S.now.P.size < 6 then S.now.P.size else -1000003))) (if okPump k s t = true ∧ S.now.P.size < 6 then S.remember.sNow (S.now.sP (S.now.P.add k s t)) else S)
  | _ => False
theorem se_X6_pump (k : Int32) (s : Int32) (t : Int32) (S : FT) (K : Option Value → FT → Prop) : sp_X6_pump [.ref 0, .int k, .int s, .int t] S K = ((S.good) ∧ K (some (.int (if okPump k s t = false then -1000001 else if S.now.P.size < 6 then S.now.P.size else -1000003))) (if okPump k s t = true ∧ S.now.P.size < 6 then S.remember.sNow (S.now.sP (S.now.P.add k s t)) else S)) := rfl
theorem spok_X6_pump : SpOk yX6_pump cX6_pump 4 (some .int) 4 fpW sp_X6_pump := by
  intro av S K h
  unfold sp_X6_pump at h
  split at h
  · rename_i k s t; exact ⟨some (.int (if okPump k s t = false then -1000001 else if S.now.P.size < 6 then S.now.P.size else -1000003)), if okPump k s t = true ∧ S.now.P.size < 6 then S.remember.sNow (S.now.sP (S.now.P.add k s t)) else S, trivial, con_X6_pump S k s t h.1, h.2⟩
  · exact h.elim
def FT.okServ (S : FT) (p is : Int32) : Bool := S.now.P.has p && inR is 0 1
theorem flX6_67 : fldOk RX6 67 3 3 = true := by decide +kernel
def cod_X6_service : List (Nat × Op FT) := [(0, O_aload 0 1), (1, O_getf fpW 6 0), (4, O_getf fpW 4 1), (7, O_iload 1 1), (8, O_callV 1 3 (fun S : FT => S.now.P) (fun S u => S.sNow (S.now.sP u)) sp_X3_has), (11, O_if_eq 23), (14, O_iload 2 1), (15, O_int 0 1), (16, O_int 1 1), (17, O_callS 3 sp_X6_within), (20, O_if_ne 26), (23, O_int (-1000001) 2), (25, O_iret), (26, O_iload 2 1), (27, O_int 1 1), (28, O_icmp_ne 35), (31, O_int 1 1), (32, O_goto 36), (35, O_int 0 1), (36, O_istore 3 1), (37, O_aload 0 1), (38, O_getf fpW 6 0), (41, O_getf fpW 4 1), (44, O_getf fpW 3 3), (47, O_iload 1 1), (48, O_ald fpW 1), (49, O_iload 3 1), (50, O_icmp_ne 56), (53, O_int (-1000002) 2), (55, O_iret), (56, O_aload 0 1), (57, O_callV 0 0 (fun S => S) (fun _ S' => S') sp_X6_remember), (60, O_aload 0 1), (61, O_getf fpW 6 0), (64, O_iload 1 1), (65, O_iload 3 1), (66, O_callV 2 1 (fun S : FT => S.now) (fun S u => S.sNow u) sp_X4_changeService), (69, O_if_eq 76), (72, O_int 1 1), (73, O_goto 77), (76, O_int 0 1), (77, O_iret)]
abbrev cut_X6_service : List Nat := []
set_option maxRecDepth 100000 in
theorem okc_X6_service {E : En} (F : Fx E RX6 cX6_service 4 4) (G : Fr E (some .int)) : CodOk E fpW cod_X6_service := by
  unfold CodOk cod_X6_service
  refine List.forall_mem_cons.mpr ⟨ok_aload_n F dX6_service_0 rfl (by decide), ?_⟩
  refine List.forall_mem_cons.mpr ⟨ok_getf F flX6_10 dX6_service_1 (by decide), ?_⟩
  refine List.forall_mem_cons.mpr ⟨ok_getf F flX6_50 dX6_service_4 (by decide), ?_⟩
  refine List.forall_mem_cons.mpr ⟨ok_iload_n F dX6_service_7 rfl (by decide), ?_⟩
  refine List.forall_mem_cons.mpr ⟨ok_callV F spok_X3_has ln_fp_now_P rcv_pW (by decide +kernel) (by decide) dX6_service_8 (by decide), ?_⟩
  refine List.forall_mem_cons.mpr ⟨ok_if_eq F dX6_service_11 (by decide) (by decide) (by decide), ?_⟩
  refine List.forall_mem_cons.mpr ⟨ok_iload_n F dX6_service_14 rfl (by decide), ?_⟩
  refine List.forall_mem_cons.mpr ⟨ok_iconst F dX6_service_15 (by decide) (by decide), ?_⟩
  refine List.forall_mem_cons.mpr ⟨ok_iconst F dX6_service_16 (by decide) (by decide), ?_⟩
  refine List.forall_mem_cons.mpr ⟨ok_callS F spok_X6_within (by decide +kernel) rfl (by decide) dX6_service_17 (by decide), ?_⟩
  refine List.forall_mem_cons.mpr ⟨ok_if_ne F dX6_service_20 (by decide) (by decide) (by decide), ?_⟩
  refine List.forall_mem_cons.mpr ⟨ok_ldc F (ix := 41) (wsHas_mem (l := [Jvm.Cond.constant RX6 41 (-1000001)]) (by decide +kernel) (by simp)) dX6_service_23 (by decide), ?_⟩
  refine List.forall_mem_cons.mpr ⟨ok_iret F G dX6_service_25 (by decide), ?_⟩
  refine List.forall_mem_cons.mpr ⟨ok_iload_n F dX6_service_26 rfl (by decide), ?_⟩
  refine List.forall_mem_cons.mpr ⟨ok_iconst F dX6_service_27 (by decide) (by decide), ?_⟩
  refine List.forall_mem_cons.mpr ⟨ok_icmp_ne F dX6_service_28 (by decide) (by decide) (by decide), ?_⟩
  refine List.forall_mem_cons.mpr ⟨ok_iconst F dX6_service_31 (by decide) (by decide), ?_⟩
  refine List.forall_mem_cons.mpr ⟨ok_goto F dX6_service_32 (by decide) (by decide) (by decide), ?_⟩
  refine List.forall_mem_cons.mpr ⟨ok_iconst F dX6_service_35 (by decide) (by decide), ?_⟩
  refine List.forall_mem_cons.mpr ⟨ok_istore_n F dX6_service_36 rfl (by decide) (by decide), ?_⟩
  refine List.forall_mem_cons.mpr ⟨ok_aload_n F dX6_service_37 rfl (by decide), ?_⟩
  refine List.forall_mem_cons.mpr ⟨ok_getf F flX6_10 dX6_service_38 (by decide), ?_⟩
  refine List.forall_mem_cons.mpr ⟨ok_getf F flX6_50 dX6_service_41 (by decide), ?_⟩
  refine List.forall_mem_cons.mpr ⟨ok_getf F flX6_67 dX6_service_44 (by decide), ?_⟩
  refine List.forall_mem_cons.mpr ⟨ok_iload_n F dX6_service_47 rfl (by decide), ?_⟩
  refine List.forall_mem_cons.mpr ⟨ok_zald F dX6_service_48 (by decide), ?_⟩
  refine List.forall_mem_cons.mpr ⟨ok_iload_n F dX6_service_49 rfl (by decide), ?_⟩
  refine List.forall_mem_cons.mpr ⟨ok_icmp_ne F dX6_service_50 (by decide) (by decide) (by decide), ?_⟩
  refine List.forall_mem_cons.mpr ⟨ok_ldc F (ix := 71) (wsHas_mem (l := [Jvm.Cond.constant RX6 71 (-1000002)]) (by decide +kernel) (by simp)) dX6_service_53 (by decide), ?_⟩
  refine List.forall_mem_cons.mpr ⟨ok_iret F G dX6_service_55 (by decide), ?_⟩
  refine List.forall_mem_cons.mpr ⟨ok_aload_n F dX6_service_56 rfl (by decide), ?_⟩
  refine List.forall_mem_cons.mpr ⟨ok_callV F spok_X6_remember (ln_id fpW) rcv_fpW (by decide +kernel) (by decide) dX6_service_57 (by decide), ?_⟩
  refine List.forall_mem_cons.mpr ⟨ok_aload_n F dX6_service_60 rfl (by decide), ?_⟩
  refine List.forall_mem_cons.mpr ⟨ok_getf F flX6_10 dX6_service_61 (by decide), ?_⟩
  refine List.forall_mem_cons.mpr ⟨ok_iload_n F dX6_service_64 rfl (by decide), ?_⟩
  refine List.forall_mem_cons.mpr ⟨ok_iload_n F dX6_service_65 rfl (by decide), ?_⟩
  refine List.forall_mem_cons.mpr ⟨ok_callV F spok_X4_changeService ln_fp_now rcv_stW (by decide +kernel) (by decide) dX6_service_66 (by decide), ?_⟩
  refine List.forall_mem_cons.mpr ⟨ok_if_eq F dX6_service_69 (by decide) (by decide) (by decide), ?_⟩
  refine List.forall_mem_cons.mpr ⟨ok_iconst F dX6_service_72 (by decide) (by decide), ?_⟩
  refine List.forall_mem_cons.mpr ⟨ok_goto F dX6_service_73 (by decide) (by decide) (by decide), ?_⟩
  refine List.forall_mem_cons.mpr ⟨ok_iconst F dX6_service_76 (by decide) (by decide), ?_⟩
  refine List.forall_mem_cons.mpr ⟨ok_iret F G dX6_service_77 (by decide), ?_⟩
  exact fun _ h => absurd h List.not_mem_nil
set_option maxRecDepth 100000 in
theorem w_X6_service : (∀ (K : Kt FT) (n : Nat) (L : xL) (st : List Value) (S : FT), nx cod_X6_service cut_X6_service K (n + 1) 0 L st S = (O_aload 0 1) (nx cod_X6_service cut_X6_service K n) 0 L st S) ∧
  (∀ (K : Kt FT) (n : Nat) (L : xL) (st : List Value) (S : FT), nx cod_X6_service cut_X6_service K (n + 1) 1 L st S = (O_getf fpW 6 0) (nx cod_X6_service cut_X6_service K n) 1 L st S) ∧
  (∀ (K : Kt FT) (n : Nat) (L : xL) (st : List Value) (S : FT), nx cod_X6_service cut_X6_service K (n + 1) 4 L st S = (O_getf fpW 4 1) (nx cod_X6_service cut_X6_service K n) 4 L st S) ∧
  (∀ (K : Kt FT) (n : Nat) (L : xL) (st : List Value) (S : FT), nx cod_X6_service cut_X6_service K (n + 1) 7 L st S = (O_iload 1 1) (nx cod_X6_service cut_X6_service K n) 7 L st S) ∧
  (∀ (K : Kt FT) (n : Nat) (L : xL) (st : List Value) (S : FT), nx cod_X6_service cut_X6_service K (n + 1) 8 L st S = (O_callV 1 3 (fun S : FT => S.now.P) (fun S u => S.sNow (S.now.sP u)) sp_X3_has) (nx cod_X6_service cut_X6_service K n) 8 L st S) ∧
  (∀ (K : Kt FT) (n : Nat) (L : xL) (st : List Value) (S : FT), nx cod_X6_service cut_X6_service K (n + 1) 11 L st S = (O_if_eq 23) (nx cod_X6_service cut_X6_service K n) 11 L st S) ∧
  (∀ (K : Kt FT) (n : Nat) (L : xL) (st : List Value) (S : FT), nx cod_X6_service cut_X6_service K (n + 1) 14 L st S = (O_iload 2 1) (nx cod_X6_service cut_X6_service K n) 14 L st S) ∧
  (∀ (K : Kt FT) (n : Nat) (L : xL) (st : List Value) (S : FT), nx cod_X6_service cut_X6_service K (n + 1) 15 L st S = (O_int 0 1) (nx cod_X6_service cut_X6_service K n) 15 L st S) ∧
  (∀ (K : Kt FT) (n : Nat) (L : xL) (st : List Value) (S : FT), nx cod_X6_service cut_X6_service K (n + 1) 16 L st S = (O_int 1 1) (nx cod_X6_service cut_X6_service K n) 16 L st S) ∧
  (∀ (K : Kt FT) (n : Nat) (L : xL) (st : List Value) (S : FT), nx cod_X6_service cut_X6_service K (n + 1) 17 L st S = (O_callS 3 sp_X6_within) (nx cod_X6_service cut_X6_service K n) 17 L st S) ∧
  (∀ (K : Kt FT) (n : Nat) (L : xL) (st : List Value) (S : FT), nx cod_X6_service cut_X6_service K (n + 1) 20 L st S = (O_if_ne 26) (nx cod_X6_service cut_X6_service K n) 20 L st S) ∧
  (∀ (K : Kt FT) (n : Nat) (L : xL) (st : List Value) (S : FT), nx cod_X6_service cut_X6_service K (n + 1) 23 L st S = (O_int (-1000001) 2) (nx cod_X6_service cut_X6_service K n) 23 L st S) ∧
  (∀ (K : Kt FT) (n : Nat) (L : xL) (st : List Value) (S : FT), nx cod_X6_service cut_X6_service K (n + 1) 25 L st S = (O_iret) (nx cod_X6_service cut_X6_service K n) 25 L st S) ∧
  (∀ (K : Kt FT) (n : Nat) (L : xL) (st : List Value) (S : FT), nx cod_X6_service cut_X6_service K (n + 1) 26 L st S = (O_iload 2 1) (nx cod_X6_service cut_X6_service K n) 26 L st S) ∧
  (∀ (K : Kt FT) (n : Nat) (L : xL) (st : List Value) (S : FT), nx cod_X6_service cut_X6_service K (n + 1) 27 L st S = (O_int 1 1) (nx cod_X6_service cut_X6_service K n) 27 L st S) ∧
  (∀ (K : Kt FT) (n : Nat) (L : xL) (st : List Value) (S : FT), nx cod_X6_service cut_X6_service K (n + 1) 28 L st S = (O_icmp_ne 35) (nx cod_X6_service cut_X6_service K n) 28 L st S) ∧
  (∀ (K : Kt FT) (n : Nat) (L : xL) (st : List Value) (S : FT), nx cod_X6_service cut_X6_service K (n + 1) 31 L st S = (O_int 1 1) (nx cod_X6_service cut_X6_service K n) 31 L st S) ∧
  (∀ (K : Kt FT) (n : Nat) (L : xL) (st : List Value) (S : FT), nx cod_X6_service cut_X6_service K (n + 1) 32 L st S = (O_goto 36) (nx cod_X6_service cut_X6_service K n) 32 L st S) ∧
  (∀ (K : Kt FT) (n : Nat) (L : xL) (st : List Value) (S : FT), nx cod_X6_service cut_X6_service K (n + 1) 35 L st S = (O_int 0 1) (nx cod_X6_service cut_X6_service K n) 35 L st S) ∧
  (∀ (K : Kt FT) (n : Nat) (L : xL) (st : List Value) (S : FT), nx cod_X6_service cut_X6_service K (n + 1) 36 L st S = (O_istore 3 1) (nx cod_X6_service cut_X6_service K n) 36 L st S) ∧
  (∀ (K : Kt FT) (n : Nat) (L : xL) (st : List Value) (S : FT), nx cod_X6_service cut_X6_service K (n + 1) 37 L st S = (O_aload 0 1) (nx cod_X6_service cut_X6_service K n) 37 L st S) ∧
  (∀ (K : Kt FT) (n : Nat) (L : xL) (st : List Value) (S : FT), nx cod_X6_service cut_X6_service K (n + 1) 38 L st S = (O_getf fpW 6 0) (nx cod_X6_service cut_X6_service K n) 38 L st S) ∧
  (∀ (K : Kt FT) (n : Nat) (L : xL) (st : List Value) (S : FT), nx cod_X6_service cut_X6_service K (n + 1) 41 L st S = (O_getf fpW 4 1) (nx cod_X6_service cut_X6_service K n) 41 L st S) ∧
  (∀ (K : Kt FT) (n : Nat) (L : xL) (st : List Value) (S : FT), nx cod_X6_service cut_X6_service K (n + 1) 44 L st S = (O_getf fpW 3 3) (nx cod_X6_service cut_X6_service K n) 44 L st S) ∧
  (∀ (K : Kt FT) (n : Nat) (L : xL) (st : List Value) (S : FT), nx cod_X6_service cut_X6_service K (n + 1) 47 L st S = (O_iload 1 1) (nx cod_X6_service cut_X6_service K n) 47 L st S) ∧
  (∀ (K : Kt FT) (n : Nat) (L : xL) (st : List Value) (S : FT), nx cod_X6_service cut_X6_service K (n + 1) 48 L st S = (O_ald fpW 1) (nx cod_X6_service cut_X6_service K n) 48 L st S) ∧
  (∀ (K : Kt FT) (n : Nat) (L : xL) (st : List Value) (S : FT), nx cod_X6_service cut_X6_service K (n + 1) 49 L st S = (O_iload 3 1) (nx cod_X6_service cut_X6_service K n) 49 L st S) ∧
  (∀ (K : Kt FT) (n : Nat) (L : xL) (st : List Value) (S : FT), nx cod_X6_service cut_X6_service K (n + 1) 50 L st S = (O_icmp_ne 56) (nx cod_X6_service cut_X6_service K n) 50 L st S) ∧
  (∀ (K : Kt FT) (n : Nat) (L : xL) (st : List Value) (S : FT), nx cod_X6_service cut_X6_service K (n + 1) 53 L st S = (O_int (-1000002) 2) (nx cod_X6_service cut_X6_service K n) 53 L st S) ∧
  (∀ (K : Kt FT) (n : Nat) (L : xL) (st : List Value) (S : FT), nx cod_X6_service cut_X6_service K (n + 1) 55 L st S = (O_iret) (nx cod_X6_service cut_X6_service K n) 55 L st S) ∧
  (∀ (K : Kt FT) (n : Nat) (L : xL) (st : List Value) (S : FT), nx cod_X6_service cut_X6_service K (n + 1) 56 L st S = (O_aload 0 1) (nx cod_X6_service cut_X6_service K n) 56 L st S) ∧
  (∀ (K : Kt FT) (n : Nat) (L : xL) (st : List Value) (S : FT), nx cod_X6_service cut_X6_service K (n + 1) 57 L st S = (O_callV 0 0 (fun S => S) (fun _ S' => S') sp_X6_remember) (nx cod_X6_service cut_X6_service K n) 57 L st S) ∧
  (∀ (K : Kt FT) (n : Nat) (L : xL) (st : List Value) (S : FT), nx cod_X6_service cut_X6_service K (n + 1) 60 L st S = (O_aload 0 1) (nx cod_X6_service cut_X6_service K n) 60 L st S) ∧
  (∀ (K : Kt FT) (n : Nat) (L : xL) (st : List Value) (S : FT), nx cod_X6_service cut_X6_service K (n + 1) 61 L st S = (O_getf fpW 6 0) (nx cod_X6_service cut_X6_service K n) 61 L st S) ∧
  (∀ (K : Kt FT) (n : Nat) (L : xL) (st : List Value) (S : FT), nx cod_X6_service cut_X6_service K (n + 1) 64 L st S = (O_iload 1 1) (nx cod_X6_service cut_X6_service K n) 64 L st S) ∧
  (∀ (K : Kt FT) (n : Nat) (L : xL) (st : List Value) (S : FT), nx cod_X6_service cut_X6_service K (n + 1) 65 L st S = (O_iload 3 1) (nx cod_X6_service cut_X6_service K n) 65 L st S) ∧
  (∀ (K : Kt FT) (n : Nat) (L : xL) (st : List Value) (S : FT), nx cod_X6_service cut_X6_service K (n + 1) 66 L st S = (O_callV 2 1 (fun S : FT => S.now) (fun S u => S.sNow u) sp_X4_changeService) (nx cod_X6_service cut_X6_service K n) 66 L st S) ∧
  (∀ (K : Kt FT) (n : Nat) (L : xL) (st : List Value) (S : FT), nx cod_X6_service cut_X6_service K (n + 1) 69 L st S = (O_if_eq 76) (nx cod_X6_service cut_X6_service K n) 69 L st S) ∧
  (∀ (K : Kt FT) (n : Nat) (L : xL) (st : List Value) (S : FT), nx cod_X6_service cut_X6_service K (n + 1) 72 L st S = (O_int 1 1) (nx cod_X6_service cut_X6_service K n) 72 L st S) ∧
  (∀ (K : Kt FT) (n : Nat) (L : xL) (st : List Value) (S : FT), nx cod_X6_service cut_X6_service K (n + 1) 73 L st S = (O_goto 77) (nx cod_X6_service cut_X6_service K n) 73 L st S) ∧
  (∀ (K : Kt FT) (n : Nat) (L : xL) (st : List Value) (S : FT), nx cod_X6_service cut_X6_service K (n + 1) 76 L st S = (O_int 0 1) (nx cod_X6_service cut_X6_service K n) 76 L st S) ∧
  (∀ (K : Kt FT) (n : Nat) (L : xL) (st : List Value) (S : FT), nx cod_X6_service cut_X6_service K (n + 1) 77 L st S = (O_iret) (nx cod_X6_service cut_X6_service K n) 77 L st S) ∧
  (∀ (K : Kt FT) (n : Nat) (L : xL) (st : List Value) (S : FT), nx cod_X6_service cut_X6_service K (n + 1) 100000 L st S = K 100000 L st S) := by
  repeat' apply And.intro
  all_goals (intros; rfl)
set_option maxRecDepth 100000 in
theorem mk_X6_service {P P' : FT} {r : Option Value} {p0 : Int32} {p1 : Int32} (body : ∀ E : En, CodOk E fpW cod_X6_service → Gd E fpW 100000 [] r.toList P' → Gd E fpW 0 [some (.ref 0), some (.int p0), some (.int p1), none] [] P) : Con yX6_service cX6_service 4 (some .int) 4 fpW [.ref 0, .int p0, .int p1] P r P' :=
  Con.of (by decide) rfl rfl (Nat.le_of_ble_eq_true rfl) (fun E F G hr => body E (okc_X6_service F G) hr)
set_option maxRecDepth 10000 in
theorem con_X6_service (S : FT) (p : Int32) (is : Int32) (hp : S.good) : Con yX6_service cX6_service 4 (some .int) 4 fpW [.ref 0, .int p, .int is] S (some (.int (if S.okServ p is = false then -1000001 else if S.now.P.inService p.toNatClampNeg = bI (decide (is = 1)) then -1000002 else bI (decide (bI (decide (is = 1)) = 0) && S.now.P.runs p)))) (if S.okServ p is = true ∧ ¬ S.now.P.inService p.toNatClampNeg = bI (decide (is = 1)) then S.remember.sNow (S.now.change p (bI (decide (is = 1)))) else S) := by
  refine mk_X6_service (fun E C hr => ?_)
  have h1 := hp.1
  have h2 := hp.2.1.2
  have h3 := hp.2.1.1.1
  have hv := PT.has_in (p := p) h3
  have hb0 : b01 0 := Or.inl rfl
  have hb1 : b01 1 := Or.inr rfl
  clear hp
  (refine nx_ok C (cuts := cut_X6_service) 1000 _ _ _ _ ?_; simp only [w_X6_service, ops_eq, xst_eq, call_eq, oK_eq, Option.toList_some, Option.toList_none, List.cons_append, List.nil_append, List.length_cons, List.length_nil, true_and, and_true, Nat.reduceAdd, fpW_F, fpW_A, fpW_S, fpW_P, FT_id, ST_id, FT_gs, ST_gs, PT_gs, ZT_gs, NT_gs, ET_gs, OT_gs, se_X3_has, se_X6_within, se_X6_remember, se_X4_changeService, bI_eq, rmb_eq, h1, h2, h3])
  ((repeat' (with_reducible first | apply And.intro | intro _)) <;> simp_all [FT.okServ, bI, hb0, hb1, FT_id, ST_id, FT_gs, ST_gs, PT_gs, ZT_gs, NT_gs, ET_gs, OT_gs])
def sp_X6_service : Sp FT := fun av S K => match av with
  | [.ref 0, .int p, .int is] => (S.good) ∧ K (some (.int (if S.okServ p is = false then -1000001 else if S.now.P.inService p.toNatClampNeg = bI (decide (is = 1)) then -1000002 else bI (decide (bI (decide (is = 1)) = 0) && S.now.P.runs p)))) (if S.okServ p is = true ∧ ¬ S.now.P.inService p.toNatClampNeg = bI (decide (is = 1)) then S.remember.sNow (S.now.change p (bI (decide (is = 1)))) else S)
  | _ => False
theorem se_X6_service (p : Int32) (is : Int32) (S : FT) (K : Option Value → FT → Prop) : sp_X6_service [.ref 0, .int p, .int is] S K = ((S.good) ∧ K (some (.int (if S.okServ p is = false then -1000001 else if S.now.P.inService p.toNatClampNeg = bI (decide (is = 1)) then -1000002 else bI (decide (bI (decide (is = 1)) = 0) && S.now.P.runs p)))) (if S.okServ p is = true ∧ ¬ S.now.P.inService p.toNatClampNeg = bI (decide (is = 1)) then S.remember.sNow (S.now.change p (bI (decide (is = 1)))) else S)) := rfl
theorem spok_X6_service : SpOk yX6_service cX6_service 4 (some .int) 4 fpW sp_X6_service := by
  intro av S K h
  unfold sp_X6_service at h
  split at h
  · rename_i p is; exact ⟨some (.int (if S.okServ p is = false then -1000001 else if S.now.P.inService p.toNatClampNeg = bI (decide (is = 1)) then -1000002 else bI (decide (bI (decide (is = 1)) = 0) && S.now.P.runs p))), if S.okServ p is = true ∧ ¬ S.now.P.inService p.toNatClampNeg = bI (decide (is = 1)) then S.remember.sNow (S.now.change p (bI (decide (is = 1)))) else S, trivial, con_X6_service S p is h.1, h.2⟩
  · exact h.elim
def PT.of (S : PT) (p : Nat) (pr w : Int32) (i : Int32) : Int32 := if w = 0 then S.kinds p else if w = 1 then S.shutoffs p else if w = 2 then S.steeps p else if w = 3 then (if S.inService p = 0 then 0 else 1) else if w = 4 then S.speeds p else if w = 5 then bI (decide (S.vrb = i)) else if w = 6 then S.minutes p else if w = 7 then S.since p else if w = 8 then S.starts p else if w = 9 then S.flowOf p (S.speeds p) pr else -1000001
theorem flX6_76 : fldOk RX6 76 3 0 = true := by decide +kernel
theorem flX6_79 : fldOk RX6 79 3 1 = true := by decide +kernel
theorem flX6_82 : fldOk RX6 82 3 2 = true := by decide +kernel
theorem flX6_85 : fldOk RX6 85 3 4 = true := by decide +kernel
theorem flX6_88 : fldOk RX6 88 3 9 = true := by decide +kernel
theorem flX6_91 : fldOk RX6 91 3 5 = true := by decide +kernel
theorem flX6_94 : fldOk RX6 94 3 6 = true := by decide +kernel
theorem flX6_97 : fldOk RX6 97 3 7 = true := by decide +kernel
theorem flX6_100 : fldOk RX6 100 4 6 = true := by decide +kernel
def cod_X6_pumpOf : List (Nat × Op FT) := [(0, O_aload 0 1), (1, O_getf fpW 6 0), (4, O_getf fpW 4 1), (7, O_astore 3 1), (8, O_aload 3 1), (9, O_iload 1 1), (10, O_callV 1 3 (fun S : FT => S.now.P) (fun S u => S.sNow (S.now.sP u)) sp_X3_has), (13, O_if_ne 19), (16, O_int (-1000001) 2), (18, O_iret), (19, O_iload 2 1), (20, O_switch [(0, 76), (1, 83), (2, 90), (3, 97), (4, 112), (5, 119), (6, 133), (7, 140), (8, 147), (9, 154)] 173), (76, O_aload 3 1), (77, O_getf fpW 3 0), (80, O_iload 1 1), (81, O_ald fpW 0), (82, O_iret), (83, O_aload 3 1), (84, O_getf fpW 3 1), (87, O_iload 1 1), (88, O_ald fpW 0), (89, O_iret), (90, O_aload 3 1), (91, O_getf fpW 3 2), (94, O_iload 1 1), (95, O_ald fpW 0), (96, O_iret), (97, O_aload 3 1), (98, O_getf fpW 3 3), (101, O_iload 1 1), (102, O_ald fpW 1), (103, O_if_eq 110), (106, O_int 1 1), (107, O_goto 111), (110, O_int 0 1), (111, O_iret), (112, O_aload 3 1), (113, O_getf fpW 3 4), (116, O_iload 1 1), (117, O_ald fpW 0), (118, O_iret), (119, O_aload 3 1), (120, O_getf fpW 3 9), (123, O_iload 1 1), (124, O_icmp_ne 131), (127, O_int 1 1), (128, O_goto 132), (131, O_int 0 1), (132, O_iret), (133, O_aload 3 1), (134, O_getf fpW 3 5), (137, O_iload 1 1), (138, O_ald fpW 0), (139, O_iret), (140, O_aload 3 1), (141, O_getf fpW 3 6), (144, O_iload 1 1), (145, O_ald fpW 0), (146, O_iret), (147, O_aload 3 1), (148, O_getf fpW 3 7), (151, O_iload 1 1), (152, O_ald fpW 0), (153, O_iret), (154, O_aload 3 1), (155, O_iload 1 1), (156, O_aload 3 1), (157, O_getf fpW 3 4), (160, O_iload 1 1), (161, O_ald fpW 0), (162, O_aload 0 1), (163, O_getf fpW 6 0), (166, O_getf fpW 4 6), (169, O_callV 3 3 (fun S : FT => S.now.P) (fun S u => S.sNow (S.now.sP u)) sp_X3_flowOf), (172, O_iret), (173, O_int (-1000001) 2), (175, O_iret)]
abbrev cut_X6_pumpOf : List Nat := []
set_option maxRecDepth 100000 in
theorem okc_X6_pumpOf {E : En} (F : Fx E RX6 cX6_pumpOf 4 2) (G : Fr E (some .int)) : CodOk E fpW cod_X6_pumpOf := by
  unfold CodOk cod_X6_pumpOf
  refine List.forall_mem_cons.mpr ⟨ok_aload_n F dX6_pumpOf_0 rfl (by decide), ?_⟩
  refine List.forall_mem_cons.mpr ⟨ok_getf F flX6_10 dX6_pumpOf_1 (by decide), ?_⟩
  refine List.forall_mem_cons.mpr ⟨ok_getf F flX6_50 dX6_pumpOf_4 (by decide), ?_⟩
  refine List.forall_mem_cons.mpr ⟨ok_astore_n F dX6_pumpOf_7 rfl (by decide) (by decide), ?_⟩
  refine List.forall_mem_cons.mpr ⟨ok_aload_n F dX6_pumpOf_8 rfl (by decide), ?_⟩
  refine List.forall_mem_cons.mpr ⟨ok_iload_n F dX6_pumpOf_9 rfl (by decide), ?_⟩
  refine List.forall_mem_cons.mpr ⟨ok_callV F spok_X3_has ln_fp_now_P rcv_pW (by decide +kernel) (by decide) dX6_pumpOf_10 (by decide), ?_⟩
  refine List.forall_mem_cons.mpr ⟨ok_if_ne F dX6_pumpOf_13 (by decide) (by decide) (by decide), ?_⟩
  refine List.forall_mem_cons.mpr ⟨ok_ldc F (ix := 41) (wsHas_mem (l := [Jvm.Cond.constant RX6 41 (-1000001)]) (by decide +kernel) (by simp)) dX6_pumpOf_16 (by decide), ?_⟩
  refine List.forall_mem_cons.mpr ⟨ok_iret F G dX6_pumpOf_18 (by decide), ?_⟩
  refine List.forall_mem_cons.mpr ⟨ok_iload_n F dX6_pumpOf_19 rfl (by decide), ?_⟩
  refine List.forall_mem_cons.mpr ⟨ok_table F dX6_pumpOf_20 (by decide +kernel) (by decide), ?_⟩
  refine List.forall_mem_cons.mpr ⟨ok_aload_n F dX6_pumpOf_76 rfl (by decide), ?_⟩
  refine List.forall_mem_cons.mpr ⟨ok_getf F flX6_76 dX6_pumpOf_77 (by decide), ?_⟩
  refine List.forall_mem_cons.mpr ⟨ok_iload_n F dX6_pumpOf_80 rfl (by decide), ?_⟩
  refine List.forall_mem_cons.mpr ⟨ok_iald F dX6_pumpOf_81 (by decide), ?_⟩
  refine List.forall_mem_cons.mpr ⟨ok_iret F G dX6_pumpOf_82 (by decide), ?_⟩
  refine List.forall_mem_cons.mpr ⟨ok_aload_n F dX6_pumpOf_83 rfl (by decide), ?_⟩
  refine List.forall_mem_cons.mpr ⟨ok_getf F flX6_79 dX6_pumpOf_84 (by decide), ?_⟩
  refine List.forall_mem_cons.mpr ⟨ok_iload_n F dX6_pumpOf_87 rfl (by decide), ?_⟩
  refine List.forall_mem_cons.mpr ⟨ok_iald F dX6_pumpOf_88 (by decide), ?_⟩
  refine List.forall_mem_cons.mpr ⟨ok_iret F G dX6_pumpOf_89 (by decide), ?_⟩
  refine List.forall_mem_cons.mpr ⟨ok_aload_n F dX6_pumpOf_90 rfl (by decide), ?_⟩
  refine List.forall_mem_cons.mpr ⟨ok_getf F flX6_82 dX6_pumpOf_91 (by decide), ?_⟩
  refine List.forall_mem_cons.mpr ⟨ok_iload_n F dX6_pumpOf_94 rfl (by decide), ?_⟩
  refine List.forall_mem_cons.mpr ⟨ok_iald F dX6_pumpOf_95 (by decide), ?_⟩
  refine List.forall_mem_cons.mpr ⟨ok_iret F G dX6_pumpOf_96 (by decide), ?_⟩
  refine List.forall_mem_cons.mpr ⟨ok_aload_n F dX6_pumpOf_97 rfl (by decide), ?_⟩
  refine List.forall_mem_cons.mpr ⟨ok_getf F flX6_67 dX6_pumpOf_98 (by decide), ?_⟩
  refine List.forall_mem_cons.mpr ⟨ok_iload_n F dX6_pumpOf_101 rfl (by decide), ?_⟩
  refine List.forall_mem_cons.mpr ⟨ok_zald F dX6_pumpOf_102 (by decide), ?_⟩
  refine List.forall_mem_cons.mpr ⟨ok_if_eq F dX6_pumpOf_103 (by decide) (by decide) (by decide), ?_⟩
  refine List.forall_mem_cons.mpr ⟨ok_iconst F dX6_pumpOf_106 (by decide) (by decide), ?_⟩
  refine List.forall_mem_cons.mpr ⟨ok_goto F dX6_pumpOf_107 (by decide) (by decide) (by decide), ?_⟩
  refine List.forall_mem_cons.mpr ⟨ok_iconst F dX6_pumpOf_110 (by decide) (by decide), ?_⟩
  refine List.forall_mem_cons.mpr ⟨ok_iret F G dX6_pumpOf_111 (by decide), ?_⟩
  refine List.forall_mem_cons.mpr ⟨ok_aload_n F dX6_pumpOf_112 rfl (by decide), ?_⟩
  refine List.forall_mem_cons.mpr ⟨ok_getf F flX6_85 dX6_pumpOf_113 (by decide), ?_⟩
  refine List.forall_mem_cons.mpr ⟨ok_iload_n F dX6_pumpOf_116 rfl (by decide), ?_⟩
  refine List.forall_mem_cons.mpr ⟨ok_iald F dX6_pumpOf_117 (by decide), ?_⟩
  refine List.forall_mem_cons.mpr ⟨ok_iret F G dX6_pumpOf_118 (by decide), ?_⟩
  refine List.forall_mem_cons.mpr ⟨ok_aload_n F dX6_pumpOf_119 rfl (by decide), ?_⟩
  refine List.forall_mem_cons.mpr ⟨ok_getf F flX6_88 dX6_pumpOf_120 (by decide), ?_⟩
  refine List.forall_mem_cons.mpr ⟨ok_iload_n F dX6_pumpOf_123 rfl (by decide), ?_⟩
  refine List.forall_mem_cons.mpr ⟨ok_icmp_ne F dX6_pumpOf_124 (by decide) (by decide) (by decide), ?_⟩
  refine List.forall_mem_cons.mpr ⟨ok_iconst F dX6_pumpOf_127 (by decide) (by decide), ?_⟩
  refine List.forall_mem_cons.mpr ⟨ok_goto F dX6_pumpOf_128 (by decide) (by decide) (by decide), ?_⟩
  refine List.forall_mem_cons.mpr ⟨ok_iconst F dX6_pumpOf_131 (by decide) (by decide), ?_⟩
  refine List.forall_mem_cons.mpr ⟨ok_iret F G dX6_pumpOf_132 (by decide), ?_⟩
  refine List.forall_mem_cons.mpr ⟨ok_aload_n F dX6_pumpOf_133 rfl (by decide), ?_⟩
  refine List.forall_mem_cons.mpr ⟨ok_getf F flX6_91 dX6_pumpOf_134 (by decide), ?_⟩
  refine List.forall_mem_cons.mpr ⟨ok_iload_n F dX6_pumpOf_137 rfl (by decide), ?_⟩
  refine List.forall_mem_cons.mpr ⟨ok_iald F dX6_pumpOf_138 (by decide), ?_⟩
  refine List.forall_mem_cons.mpr ⟨ok_iret F G dX6_pumpOf_139 (by decide), ?_⟩
  refine List.forall_mem_cons.mpr ⟨ok_aload_n F dX6_pumpOf_140 rfl (by decide), ?_⟩
  refine List.forall_mem_cons.mpr ⟨ok_getf F flX6_94 dX6_pumpOf_141 (by decide), ?_⟩
  refine List.forall_mem_cons.mpr ⟨ok_iload_n F dX6_pumpOf_144 rfl (by decide), ?_⟩
  refine List.forall_mem_cons.mpr ⟨ok_iald F dX6_pumpOf_145 (by decide), ?_⟩
  refine List.forall_mem_cons.mpr ⟨ok_iret F G dX6_pumpOf_146 (by decide), ?_⟩
  refine List.forall_mem_cons.mpr ⟨ok_aload_n F dX6_pumpOf_147 rfl (by decide), ?_⟩
  refine List.forall_mem_cons.mpr ⟨ok_getf F flX6_97 dX6_pumpOf_148 (by decide), ?_⟩
  refine List.forall_mem_cons.mpr ⟨ok_iload_n F dX6_pumpOf_151 rfl (by decide), ?_⟩
  refine List.forall_mem_cons.mpr ⟨ok_iald F dX6_pumpOf_152 (by decide), ?_⟩
  refine List.forall_mem_cons.mpr ⟨ok_iret F G dX6_pumpOf_153 (by decide), ?_⟩
  refine List.forall_mem_cons.mpr ⟨ok_aload_n F dX6_pumpOf_154 rfl (by decide), ?_⟩
  refine List.forall_mem_cons.mpr ⟨ok_iload_n F dX6_pumpOf_155 rfl (by decide), ?_⟩
  refine List.forall_mem_cons.mpr ⟨ok_aload_n F dX6_pumpOf_156 rfl (by decide), ?_⟩
  refine List.forall_mem_cons.mpr ⟨ok_getf F flX6_85 dX6_pumpOf_157 (by decide), ?_⟩
  refine List.forall_mem_cons.mpr ⟨ok_iload_n F dX6_pumpOf_160 rfl (by decide), ?_⟩
  refine List.forall_mem_cons.mpr ⟨ok_iald F dX6_pumpOf_161 (by decide), ?_⟩
  refine List.forall_mem_cons.mpr ⟨ok_aload_n F dX6_pumpOf_162 rfl (by decide), ?_⟩
  refine List.forall_mem_cons.mpr ⟨ok_getf F flX6_10 dX6_pumpOf_163 (by decide), ?_⟩
  refine List.forall_mem_cons.mpr ⟨ok_getf F flX6_100 dX6_pumpOf_166 (by decide), ?_⟩
  refine List.forall_mem_cons.mpr ⟨ok_callV F spok_X3_flowOf ln_fp_now_P rcv_pW (by decide +kernel) (by decide) dX6_pumpOf_169 (by decide), ?_⟩
  refine List.forall_mem_cons.mpr ⟨ok_iret F G dX6_pumpOf_172 (by decide), ?_⟩
  refine List.forall_mem_cons.mpr ⟨ok_ldc F (ix := 41) (wsHas_mem (l := [Jvm.Cond.constant RX6 41 (-1000001)]) (by decide +kernel) (by simp)) dX6_pumpOf_173 (by decide), ?_⟩
  refine List.forall_mem_cons.mpr ⟨ok_iret F G dX6_pumpOf_175 (by decide), ?_⟩
  exact fun _ h => absurd h List.not_mem_nil
set_option maxRecDepth 100000 in
theorem w_X6_pumpOf : (∀ (K : Kt FT) (n : Nat) (L : xL) (st : List Value) (S : FT), nx cod_X6_pumpOf cut_X6_pumpOf K (n + 1) 0 L st S = (O_aload 0 1) (nx cod_X6_pumpOf cut_X6_pumpOf K n) 0 L st S) ∧
  (∀ (K : Kt FT) (n : Nat) (L : xL) (st : List Value) (S : FT), nx cod_X6_pumpOf cut_X6_pumpOf K (n + 1) 1 L st S = (O_getf fpW 6 0) (nx cod_X6_pumpOf cut_X6_pumpOf K n) 1 L st S) ∧
  (∀ (K : Kt FT) (n : Nat) (L : xL) (st : List Value) (S : FT), nx cod_X6_pumpOf cut_X6_pumpOf K (n + 1) 4 L st S = (O_getf fpW 4 1) (nx cod_X6_pumpOf cut_X6_pumpOf K n) 4 L st S) ∧
  (∀ (K : Kt FT) (n : Nat) (L : xL) (st : List Value) (S : FT), nx cod_X6_pumpOf cut_X6_pumpOf K (n + 1) 7 L st S = (O_astore 3 1) (nx cod_X6_pumpOf cut_X6_pumpOf K n) 7 L st S) ∧
  (∀ (K : Kt FT) (n : Nat) (L : xL) (st : List Value) (S : FT), nx cod_X6_pumpOf cut_X6_pumpOf K (n + 1) 8 L st S = (O_aload 3 1) (nx cod_X6_pumpOf cut_X6_pumpOf K n) 8 L st S) ∧
  (∀ (K : Kt FT) (n : Nat) (L : xL) (st : List Value) (S : FT), nx cod_X6_pumpOf cut_X6_pumpOf K (n + 1) 9 L st S = (O_iload 1 1) (nx cod_X6_pumpOf cut_X6_pumpOf K n) 9 L st S) ∧
  (∀ (K : Kt FT) (n : Nat) (L : xL) (st : List Value) (S : FT), nx cod_X6_pumpOf cut_X6_pumpOf K (n + 1) 10 L st S = (O_callV 1 3 (fun S : FT => S.now.P) (fun S u => S.sNow (S.now.sP u)) sp_X3_has) (nx cod_X6_pumpOf cut_X6_pumpOf K n) 10 L st S) ∧
  (∀ (K : Kt FT) (n : Nat) (L : xL) (st : List Value) (S : FT), nx cod_X6_pumpOf cut_X6_pumpOf K (n + 1) 13 L st S = (O_if_ne 19) (nx cod_X6_pumpOf cut_X6_pumpOf K n) 13 L st S) ∧
  (∀ (K : Kt FT) (n : Nat) (L : xL) (st : List Value) (S : FT), nx cod_X6_pumpOf cut_X6_pumpOf K (n + 1) 16 L st S = (O_int (-1000001) 2) (nx cod_X6_pumpOf cut_X6_pumpOf K n) 16 L st S) ∧
  (∀ (K : Kt FT) (n : Nat) (L : xL) (st : List Value) (S : FT), nx cod_X6_pumpOf cut_X6_pumpOf K (n + 1) 18 L st S = (O_iret) (nx cod_X6_pumpOf cut_X6_pumpOf K n) 18 L st S) ∧
  (∀ (K : Kt FT) (n : Nat) (L : xL) (st : List Value) (S : FT), nx cod_X6_pumpOf cut_X6_pumpOf K (n + 1) 19 L st S = (O_iload 2 1) (nx cod_X6_pumpOf cut_X6_pumpOf K n) 19 L st S) ∧
  (∀ (K : Kt FT) (n : Nat) (L : xL) (st : List Value) (S : FT), nx cod_X6_pumpOf cut_X6_pumpOf K (n + 1) 20 L st S = (O_switch [(0, 76), (1, 83), (2, 90), (3, 97), (4, 112), (5, 119), (6, 133), (7, 140), (8, 147), (9, 154)] 173) (nx cod_X6_pumpOf cut_X6_pumpOf K n) 20 L st S) ∧
  (∀ (K : Kt FT) (n : Nat) (L : xL) (st : List Value) (S : FT), nx cod_X6_pumpOf cut_X6_pumpOf K (n + 1) 76 L st S = (O_aload 3 1) (nx cod_X6_pumpOf cut_X6_pumpOf K n) 76 L st S) ∧
  (∀ (K : Kt FT) (n : Nat) (L : xL) (st : List Value) (S : FT), nx cod_X6_pumpOf cut_X6_pumpOf K (n + 1) 77 L st S = (O_getf fpW 3 0) (nx cod_X6_pumpOf cut_X6_pumpOf K n) 77 L st S) ∧
  (∀ (K : Kt FT) (n : Nat) (L : xL) (st : List Value) (S : FT), nx cod_X6_pumpOf cut_X6_pumpOf K (n + 1) 80 L st S = (O_iload 1 1) (nx cod_X6_pumpOf cut_X6_pumpOf K n) 80 L st S) ∧
  (∀ (K : Kt FT) (n : Nat) (L : xL) (st : List Value) (S : FT), nx cod_X6_pumpOf cut_X6_pumpOf K (n + 1) 81 L st S = (O_ald fpW 0) (nx cod_X6_pumpOf cut_X6_pumpOf K n) 81 L st S) ∧
  (∀ (K : Kt FT) (n : Nat) (L : xL) (st : List Value) (S : FT), nx cod_X6_pumpOf cut_X6_pumpOf K (n + 1) 82 L st S = (O_iret) (nx cod_X6_pumpOf cut_X6_pumpOf K n) 82 L st S) ∧
  (∀ (K : Kt FT) (n : Nat) (L : xL) (st : List Value) (S : FT), nx cod_X6_pumpOf cut_X6_pumpOf K (n + 1) 83 L st S = (O_aload 3 1) (nx cod_X6_pumpOf cut_X6_pumpOf K n) 83 L st S) ∧
  (∀ (K : Kt FT) (n : Nat) (L : xL) (st : List Value) (S : FT), nx cod_X6_pumpOf cut_X6_pumpOf K (n + 1) 84 L st S = (O_getf fpW 3 1) (nx cod_X6_pumpOf cut_X6_pumpOf K n) 84 L st S) ∧
  (∀ (K : Kt FT) (n : Nat) (L : xL) (st : List Value) (S : FT), nx cod_X6_pumpOf cut_X6_pumpOf K (n + 1) 87 L st S = (O_iload 1 1) (nx cod_X6_pumpOf cut_X6_pumpOf K n) 87 L st S) ∧
  (∀ (K : Kt FT) (n : Nat) (L : xL) (st : List Value) (S : FT), nx cod_X6_pumpOf cut_X6_pumpOf K (n + 1) 88 L st S = (O_ald fpW 0) (nx cod_X6_pumpOf cut_X6_pumpOf K n) 88 L st S) ∧
  (∀ (K : Kt FT) (n : Nat) (L : xL) (st : List Value) (S : FT), nx cod_X6_pumpOf cut_X6_pumpOf K (n + 1) 89 L st S = (O_iret) (nx cod_X6_pumpOf cut_X6_pumpOf K n) 89 L st S) ∧
  (∀ (K : Kt FT) (n : Nat) (L : xL) (st : List Value) (S : FT), nx cod_X6_pumpOf cut_X6_pumpOf K (n + 1) 90 L st S = (O_aload 3 1) (nx cod_X6_pumpOf cut_X6_pumpOf K n) 90 L st S) ∧
  (∀ (K : Kt FT) (n : Nat) (L : xL) (st : List Value) (S : FT), nx cod_X6_pumpOf cut_X6_pumpOf K (n + 1) 91 L st S = (O_getf fpW 3 2) (nx cod_X6_pumpOf cut_X6_pumpOf K n) 91 L st S) ∧
  (∀ (K : Kt FT) (n : Nat) (L : xL) (st : List Value) (S : FT), nx cod_X6_pumpOf cut_X6_pumpOf K (n + 1) 94 L st S = (O_iload 1 1) (nx cod_X6_pumpOf cut_X6_pumpOf K n) 94 L st S) ∧
  (∀ (K : Kt FT) (n : Nat) (L : xL) (st : List Value) (S : FT), nx cod_X6_pumpOf cut_X6_pumpOf K (n + 1) 95 L st S = (O_ald fpW 0) (nx cod_X6_pumpOf cut_X6_pumpOf K n) 95 L st S) ∧
  (∀ (K : Kt FT) (n : Nat) (L : xL) (st : List Value) (S : FT), nx cod_X6_pumpOf cut_X6_pumpOf K (n + 1) 96 L st S = (O_iret) (nx cod_X6_pumpOf cut_X6_pumpOf K n) 96 L st S) ∧
  (∀ (K : Kt FT) (n : Nat) (L : xL) (st : List Value) (S : FT), nx cod_X6_pumpOf cut_X6_pumpOf K (n + 1) 97 L st S = (O_aload 3 1) (nx cod_X6_pumpOf cut_X6_pumpOf K n) 97 L st S) ∧
  (∀ (K : Kt FT) (n : Nat) (L : xL) (st : List Value) (S : FT), nx cod_X6_pumpOf cut_X6_pumpOf K (n + 1) 98 L st S = (O_getf fpW 3 3) (nx cod_X6_pumpOf cut_X6_pumpOf K n) 98 L st S) ∧
  (∀ (K : Kt FT) (n : Nat) (L : xL) (st : List Value) (S : FT), nx cod_X6_pumpOf cut_X6_pumpOf K (n + 1) 101 L st S = (O_iload 1 1) (nx cod_X6_pumpOf cut_X6_pumpOf K n) 101 L st S) ∧
  (∀ (K : Kt FT) (n : Nat) (L : xL) (st : List Value) (S : FT), nx cod_X6_pumpOf cut_X6_pumpOf K (n + 1) 102 L st S = (O_ald fpW 1) (nx cod_X6_pumpOf cut_X6_pumpOf K n) 102 L st S) ∧
  (∀ (K : Kt FT) (n : Nat) (L : xL) (st : List Value) (S : FT), nx cod_X6_pumpOf cut_X6_pumpOf K (n + 1) 103 L st S = (O_if_eq 110) (nx cod_X6_pumpOf cut_X6_pumpOf K n) 103 L st S) ∧
  (∀ (K : Kt FT) (n : Nat) (L : xL) (st : List Value) (S : FT), nx cod_X6_pumpOf cut_X6_pumpOf K (n + 1) 106 L st S = (O_int 1 1) (nx cod_X6_pumpOf cut_X6_pumpOf K n) 106 L st S) ∧
  (∀ (K : Kt FT) (n : Nat) (L : xL) (st : List Value) (S : FT), nx cod_X6_pumpOf cut_X6_pumpOf K (n + 1) 107 L st S = (O_goto 111) (nx cod_X6_pumpOf cut_X6_pumpOf K n) 107 L st S) ∧
  (∀ (K : Kt FT) (n : Nat) (L : xL) (st : List Value) (S : FT), nx cod_X6_pumpOf cut_X6_pumpOf K (n + 1) 110 L st S = (O_int 0 1) (nx cod_X6_pumpOf cut_X6_pumpOf K n) 110 L st S) ∧
  (∀ (K : Kt FT) (n : Nat) (L : xL) (st : List Value) (S : FT), nx cod_X6_pumpOf cut_X6_pumpOf K (n + 1) 111 L st S = (O_iret) (nx cod_X6_pumpOf cut_X6_pumpOf K n) 111 L st S) ∧
  (∀ (K : Kt FT) (n : Nat) (L : xL) (st : List Value) (S : FT), nx cod_X6_pumpOf cut_X6_pumpOf K (n + 1) 112 L st S = (O_aload 3 1) (nx cod_X6_pumpOf cut_X6_pumpOf K n) 112 L st S) ∧
  (∀ (K : Kt FT) (n : Nat) (L : xL) (st : List Value) (S : FT), nx cod_X6_pumpOf cut_X6_pumpOf K (n + 1) 113 L st S = (O_getf fpW 3 4) (nx cod_X6_pumpOf cut_X6_pumpOf K n) 113 L st S) ∧
  (∀ (K : Kt FT) (n : Nat) (L : xL) (st : List Value) (S : FT), nx cod_X6_pumpOf cut_X6_pumpOf K (n + 1) 116 L st S = (O_iload 1 1) (nx cod_X6_pumpOf cut_X6_pumpOf K n) 116 L st S) ∧
  (∀ (K : Kt FT) (n : Nat) (L : xL) (st : List Value) (S : FT), nx cod_X6_pumpOf cut_X6_pumpOf K (n + 1) 117 L st S = (O_ald fpW 0) (nx cod_X6_pumpOf cut_X6_pumpOf K n) 117 L st S) ∧
  (∀ (K : Kt FT) (n : Nat) (L : xL) (st : List Value) (S : FT), nx cod_X6_pumpOf cut_X6_pumpOf K (n + 1) 118 L st S = (O_iret) (nx cod_X6_pumpOf cut_X6_pumpOf K n) 118 L st S) ∧
  (∀ (K : Kt FT) (n : Nat) (L : xL) (st : List Value) (S : FT), nx cod_X6_pumpOf cut_X6_pumpOf K (n + 1) 119 L st S = (O_aload 3 1) (nx cod_X6_pumpOf cut_X6_pumpOf K n) 119 L st S) ∧
  (∀ (K : Kt FT) (n : Nat) (L : xL) (st : List Value) (S : FT), nx cod_X6_pumpOf cut_X6_pumpOf K (n + 1) 120 L st S = (O_getf fpW 3 9) (nx cod_X6_pumpOf cut_X6_pumpOf K n) 120 L st S) ∧
  (∀ (K : Kt FT) (n : Nat) (L : xL) (st : List Value) (S : FT), nx cod_X6_pumpOf cut_X6_pumpOf K (n + 1) 123 L st S = (O_iload 1 1) (nx cod_X6_pumpOf cut_X6_pumpOf K n) 123 L st S) ∧
  (∀ (K : Kt FT) (n : Nat) (L : xL) (st : List Value) (S : FT), nx cod_X6_pumpOf cut_X6_pumpOf K (n + 1) 124 L st S = (O_icmp_ne 131) (nx cod_X6_pumpOf cut_X6_pumpOf K n) 124 L st S) ∧
  (∀ (K : Kt FT) (n : Nat) (L : xL) (st : List Value) (S : FT), nx cod_X6_pumpOf cut_X6_pumpOf K (n + 1) 127 L st S = (O_int 1 1) (nx cod_X6_pumpOf cut_X6_pumpOf K n) 127 L st S) ∧
  (∀ (K : Kt FT) (n : Nat) (L : xL) (st : List Value) (S : FT), nx cod_X6_pumpOf cut_X6_pumpOf K (n + 1) 128 L st S = (O_goto 132) (nx cod_X6_pumpOf cut_X6_pumpOf K n) 128 L st S) ∧
  (∀ (K : Kt FT) (n : Nat) (L : xL) (st : List Value) (S : FT), nx cod_X6_pumpOf cut_X6_pumpOf K (n + 1) 131 L st S = (O_int 0 1) (nx cod_X6_pumpOf cut_X6_pumpOf K n) 131 L st S) ∧
  (∀ (K : Kt FT) (n : Nat) (L : xL) (st : List Value) (S : FT), nx cod_X6_pumpOf cut_X6_pumpOf K (n + 1) 132 L st S = (O_iret) (nx cod_X6_pumpOf cut_X6_pumpOf K n) 132 L st S) ∧
  (∀ (K : Kt FT) (n : Nat) (L : xL) (st : List Value) (S : FT), nx cod_X6_pumpOf cut_X6_pumpOf K (n + 1) 133 L st S = (O_aload 3 1) (nx cod_X6_pumpOf cut_X6_pumpOf K n) 133 L st S) ∧
  (∀ (K : Kt FT) (n : Nat) (L : xL) (st : List Value) (S : FT), nx cod_X6_pumpOf cut_X6_pumpOf K (n + 1) 134 L st S = (O_getf fpW 3 5) (nx cod_X6_pumpOf cut_X6_pumpOf K n) 134 L st S) ∧
  (∀ (K : Kt FT) (n : Nat) (L : xL) (st : List Value) (S : FT), nx cod_X6_pumpOf cut_X6_pumpOf K (n + 1) 137 L st S = (O_iload 1 1) (nx cod_X6_pumpOf cut_X6_pumpOf K n) 137 L st S) ∧
  (∀ (K : Kt FT) (n : Nat) (L : xL) (st : List Value) (S : FT), nx cod_X6_pumpOf cut_X6_pumpOf K (n + 1) 138 L st S = (O_ald fpW 0) (nx cod_X6_pumpOf cut_X6_pumpOf K n) 138 L st S) ∧
  (∀ (K : Kt FT) (n : Nat) (L : xL) (st : List Value) (S : FT), nx cod_X6_pumpOf cut_X6_pumpOf K (n + 1) 139 L st S = (O_iret) (nx cod_X6_pumpOf cut_X6_pumpOf K n) 139 L st S) ∧
  (∀ (K : Kt FT) (n : Nat) (L : xL) (st : List Value) (S : FT), nx cod_X6_pumpOf cut_X6_pumpOf K (n + 1) 140 L st S = (O_aload 3 1) (nx cod_X6_pumpOf cut_X6_pumpOf K n) 140 L st S) ∧
  (∀ (K : Kt FT) (n : Nat) (L : xL) (st : List Value) (S : FT), nx cod_X6_pumpOf cut_X6_pumpOf K (n + 1) 141 L st S = (O_getf fpW 3 6) (nx cod_X6_pumpOf cut_X6_pumpOf K n) 141 L st S) ∧
  (∀ (K : Kt FT) (n : Nat) (L : xL) (st : List Value) (S : FT), nx cod_X6_pumpOf cut_X6_pumpOf K (n + 1) 144 L st S = (O_iload 1 1) (nx cod_X6_pumpOf cut_X6_pumpOf K n) 144 L st S) ∧
  (∀ (K : Kt FT) (n : Nat) (L : xL) (st : List Value) (S : FT), nx cod_X6_pumpOf cut_X6_pumpOf K (n + 1) 145 L st S = (O_ald fpW 0) (nx cod_X6_pumpOf cut_X6_pumpOf K n) 145 L st S) ∧
  (∀ (K : Kt FT) (n : Nat) (L : xL) (st : List Value) (S : FT), nx cod_X6_pumpOf cut_X6_pumpOf K (n + 1) 146 L st S = (O_iret) (nx cod_X6_pumpOf cut_X6_pumpOf K n) 146 L st S) ∧
  (∀ (K : Kt FT) (n : Nat) (L : xL) (st : List Value) (S : FT), nx cod_X6_pumpOf cut_X6_pumpOf K (n + 1) 147 L st S = (O_aload 3 1) (nx cod_X6_pumpOf cut_X6_pumpOf K n) 147 L st S) ∧
  (∀ (K : Kt FT) (n : Nat) (L : xL) (st : List Value) (S : FT), nx cod_X6_pumpOf cut_X6_pumpOf K (n + 1) 148 L st S = (O_getf fpW 3 7) (nx cod_X6_pumpOf cut_X6_pumpOf K n) 148 L st S) ∧
  (∀ (K : Kt FT) (n : Nat) (L : xL) (st : List Value) (S : FT), nx cod_X6_pumpOf cut_X6_pumpOf K (n + 1) 151 L st S = (O_iload 1 1) (nx cod_X6_pumpOf cut_X6_pumpOf K n) 151 L st S) ∧
  (∀ (K : Kt FT) (n : Nat) (L : xL) (st : List Value) (S : FT), nx cod_X6_pumpOf cut_X6_pumpOf K (n + 1) 152 L st S = (O_ald fpW 0) (nx cod_X6_pumpOf cut_X6_pumpOf K n) 152 L st S) ∧
  (∀ (K : Kt FT) (n : Nat) (L : xL) (st : List Value) (S : FT), nx cod_X6_pumpOf cut_X6_pumpOf K (n + 1) 153 L st S = (O_iret) (nx cod_X6_pumpOf cut_X6_pumpOf K n) 153 L st S) ∧
  (∀ (K : Kt FT) (n : Nat) (L : xL) (st : List Value) (S : FT), nx cod_X6_pumpOf cut_X6_pumpOf K (n + 1) 154 L st S = (O_aload 3 1) (nx cod_X6_pumpOf cut_X6_pumpOf K n) 154 L st S) ∧
  (∀ (K : Kt FT) (n : Nat) (L : xL) (st : List Value) (S : FT), nx cod_X6_pumpOf cut_X6_pumpOf K (n + 1) 155 L st S = (O_iload 1 1) (nx cod_X6_pumpOf cut_X6_pumpOf K n) 155 L st S) ∧
  (∀ (K : Kt FT) (n : Nat) (L : xL) (st : List Value) (S : FT), nx cod_X6_pumpOf cut_X6_pumpOf K (n + 1) 156 L st S = (O_aload 3 1) (nx cod_X6_pumpOf cut_X6_pumpOf K n) 156 L st S) ∧
  (∀ (K : Kt FT) (n : Nat) (L : xL) (st : List Value) (S : FT), nx cod_X6_pumpOf cut_X6_pumpOf K (n + 1) 157 L st S = (O_getf fpW 3 4) (nx cod_X6_pumpOf cut_X6_pumpOf K n) 157 L st S) ∧
  (∀ (K : Kt FT) (n : Nat) (L : xL) (st : List Value) (S : FT), nx cod_X6_pumpOf cut_X6_pumpOf K (n + 1) 160 L st S = (O_iload 1 1) (nx cod_X6_pumpOf cut_X6_pumpOf K n) 160 L st S) ∧
  (∀ (K : Kt FT) (n : Nat) (L : xL) (st : List Value) (S : FT), nx cod_X6_pumpOf cut_X6_pumpOf K (n + 1) 161 L st S = (O_ald fpW 0) (nx cod_X6_pumpOf cut_X6_pumpOf K n) 161 L st S) ∧
  (∀ (K : Kt FT) (n : Nat) (L : xL) (st : List Value) (S : FT), nx cod_X6_pumpOf cut_X6_pumpOf K (n + 1) 162 L st S = (O_aload 0 1) (nx cod_X6_pumpOf cut_X6_pumpOf K n) 162 L st S) ∧
  (∀ (K : Kt FT) (n : Nat) (L : xL) (st : List Value) (S : FT), nx cod_X6_pumpOf cut_X6_pumpOf K (n + 1) 163 L st S = (O_getf fpW 6 0) (nx cod_X6_pumpOf cut_X6_pumpOf K n) 163 L st S) ∧
  (∀ (K : Kt FT) (n : Nat) (L : xL) (st : List Value) (S : FT), nx cod_X6_pumpOf cut_X6_pumpOf K (n + 1) 166 L st S = (O_getf fpW 4 6) (nx cod_X6_pumpOf cut_X6_pumpOf K n) 166 L st S) ∧
  (∀ (K : Kt FT) (n : Nat) (L : xL) (st : List Value) (S : FT), nx cod_X6_pumpOf cut_X6_pumpOf K (n + 1) 169 L st S = (O_callV 3 3 (fun S : FT => S.now.P) (fun S u => S.sNow (S.now.sP u)) sp_X3_flowOf) (nx cod_X6_pumpOf cut_X6_pumpOf K n) 169 L st S) ∧
  (∀ (K : Kt FT) (n : Nat) (L : xL) (st : List Value) (S : FT), nx cod_X6_pumpOf cut_X6_pumpOf K (n + 1) 172 L st S = (O_iret) (nx cod_X6_pumpOf cut_X6_pumpOf K n) 172 L st S) ∧
  (∀ (K : Kt FT) (n : Nat) (L : xL) (st : List Value) (S : FT), nx cod_X6_pumpOf cut_X6_pumpOf K (n + 1) 173 L st S = (O_int (-1000001) 2) (nx cod_X6_pumpOf cut_X6_pumpOf K n) 173 L st S) ∧
  (∀ (K : Kt FT) (n : Nat) (L : xL) (st : List Value) (S : FT), nx cod_X6_pumpOf cut_X6_pumpOf K (n + 1) 175 L st S = (O_iret) (nx cod_X6_pumpOf cut_X6_pumpOf K n) 175 L st S) ∧
  (∀ (K : Kt FT) (n : Nat) (L : xL) (st : List Value) (S : FT), nx cod_X6_pumpOf cut_X6_pumpOf K (n + 1) 100000 L st S = K 100000 L st S) := by
  repeat' apply And.intro
  all_goals (intros; rfl)
set_option maxRecDepth 100000 in
theorem mk_X6_pumpOf {P P' : FT} {r : Option Value} {p0 : Int32} {p1 : Int32} (body : ∀ E : En, CodOk E fpW cod_X6_pumpOf → Gd E fpW 100000 [] r.toList P' → Gd E fpW 0 [some (.ref 0), some (.int p0), some (.int p1), none] [] P) : Con yX6_pumpOf cX6_pumpOf 4 (some .int) 2 fpW [.ref 0, .int p0, .int p1] P r P' :=
  Con.of (by decide) rfl rfl (Nat.le_of_ble_eq_true rfl) (fun E F G hr => body E (okc_X6_pumpOf F G) hr)
set_option maxRecDepth 10000 in
theorem con_X6_pumpOf (S : FT) (p : Int32) (w : Int32) (hp : S.good) : Con yX6_pumpOf cX6_pumpOf 4 (some .int) 2 fpW [.ref 0, .int p, .int w] S (some (.int (if S.now.P.has p = false then -1000001 else S.now.P.of p.toNatClampNeg S.now.pressure w p))) (S) := by
  refine mk_X6_pumpOf (fun E C hr => ?_)
  have h3 := hp.2.1.1.1
  have hv := PT.has_in (p := p) h3
  clear hp
  (refine nx_ok C (cuts := cut_X6_pumpOf) 1000 _ _ _ _ ?_; simp only [w_X6_pumpOf, ops_eq, xst_eq, call_eq, oK_eq, Option.toList_some, Option.toList_none, List.cons_append, List.nil_append, List.length_cons, List.length_nil, true_and, and_true, Nat.reduceAdd, fpW_F, fpW_A, fpW_S, fpW_P, FT_id, ST_id, FT_gs, ST_gs, PT_gs, ZT_gs, NT_gs, ET_gs, OT_gs, se_X3_has, se_X3_flowOf, bI_eq, h3])
  (repeat' (with_reducible first | apply And.intro | intro _)) <;> (try subst_vars) <;> first | exact Nat.zero_le _ | (simp_all [PT.of, bI]; done)
def sp_X6_pumpOf : Sp FT := fun av S K => match av with
  | [.ref 0, .int p, .int w] => (S.good) ∧ K (some (.int (if S.now.P.has p = false then -1000001 else S.now.P.of p.toNatClampNeg S.now.pressure w p))) (S)
  | _ => False
theorem se_X6_pumpOf (p : Int32) (w : Int32) (S : FT) (K : Option Value → FT → Prop) : sp_X6_pumpOf [.ref 0, .int p, .int w] S K = ((S.good) ∧ K (some (.int (if S.now.P.has p = false then -1000001 else S.now.P.of p.toNatClampNeg S.now.pressure w p))) (S)) := rfl
theorem spok_X6_pumpOf : SpOk yX6_pumpOf cX6_pumpOf 4 (some .int) 2 fpW sp_X6_pumpOf := by
  intro av S K h
  unfold sp_X6_pumpOf at h
  split at h
  · rename_i p w; exact ⟨some (.int (if S.now.P.has p = false then -1000001 else S.now.P.of p.toNatClampNeg S.now.pressure w p)), S, trivial, con_X6_pumpOf S p w h.1, h.2⟩
  · exact h.elim
def FT.okCurve (S : FT) (p s r : Int32) : Bool := S.now.P.has p && inR s 300 1000 && inR r 0 2000
def cod_X6_readyAt : List (Nat × Op FT) := [(0, O_iload 1 1), (1, O_if_ge 7), (4, O_int (-1000001) 2), (6, O_iret), (7, O_aload 0 1), (8, O_getf fpW 6 0), (11, O_getf fpW 4 1), (14, O_iload 1 1), (15, O_callV 1 3 (fun S : FT => S.now.P) (fun S u => S.sNow (S.now.sP u)) sp_X3_readyInOrder), (18, O_istore 2 1), (19, O_iload 2 1), (20, O_int (-1) 1), (21, O_icmp_ne 29), (24, O_int (-1000004) 2), (26, O_goto 30), (29, O_iload 2 1), (30, O_iret)]
abbrev cut_X6_readyAt : List Nat := []
set_option maxRecDepth 100000 in
theorem okc_X6_readyAt {E : En} (F : Fx E RX6 cX6_readyAt 3 3) (G : Fr E (some .int)) : CodOk E fpW cod_X6_readyAt := by
  unfold CodOk cod_X6_readyAt
  refine List.forall_mem_cons.mpr ⟨ok_iload_n F dX6_readyAt_0 rfl (by decide), ?_⟩
  refine List.forall_mem_cons.mpr ⟨ok_if_ge F dX6_readyAt_1 (by decide) (by decide) (by decide), ?_⟩
  refine List.forall_mem_cons.mpr ⟨ok_ldc F (ix := 41) (wsHas_mem (l := [Jvm.Cond.constant RX6 41 (-1000001)]) (by decide +kernel) (by simp)) dX6_readyAt_4 (by decide), ?_⟩
  refine List.forall_mem_cons.mpr ⟨ok_iret F G dX6_readyAt_6 (by decide), ?_⟩
  refine List.forall_mem_cons.mpr ⟨ok_aload_n F dX6_readyAt_7 rfl (by decide), ?_⟩
  refine List.forall_mem_cons.mpr ⟨ok_getf F flX6_10 dX6_readyAt_8 (by decide), ?_⟩
  refine List.forall_mem_cons.mpr ⟨ok_getf F flX6_50 dX6_readyAt_11 (by decide), ?_⟩
  refine List.forall_mem_cons.mpr ⟨ok_iload_n F dX6_readyAt_14 rfl (by decide), ?_⟩
  refine List.forall_mem_cons.mpr ⟨ok_callV F spok_X3_readyInOrder ln_fp_now_P rcv_pW (by decide +kernel) (by decide) dX6_readyAt_15 (by decide), ?_⟩
  refine List.forall_mem_cons.mpr ⟨ok_istore_n F dX6_readyAt_18 rfl (by decide) (by decide), ?_⟩
  refine List.forall_mem_cons.mpr ⟨ok_iload_n F dX6_readyAt_19 rfl (by decide), ?_⟩
  refine List.forall_mem_cons.mpr ⟨ok_iconst F dX6_readyAt_20 (by decide) (by decide), ?_⟩
  refine List.forall_mem_cons.mpr ⟨ok_icmp_ne F dX6_readyAt_21 (by decide) (by decide) (by decide), ?_⟩
  refine List.forall_mem_cons.mpr ⟨ok_ldc F (ix := 110) (wsHas_mem (l := [Jvm.Cond.constant RX6 110 (-1000004)]) (by decide +kernel) (by simp)) dX6_readyAt_24 (by decide), ?_⟩
  refine List.forall_mem_cons.mpr ⟨ok_goto F dX6_readyAt_26 (by decide) (by decide) (by decide), ?_⟩
  refine List.forall_mem_cons.mpr ⟨ok_iload_n F dX6_readyAt_29 rfl (by decide), ?_⟩
  refine List.forall_mem_cons.mpr ⟨ok_iret F G dX6_readyAt_30 (by decide), ?_⟩
  exact fun _ h => absurd h List.not_mem_nil
set_option maxRecDepth 100000 in
theorem w_X6_readyAt : (∀ (K : Kt FT) (n : Nat) (L : xL) (st : List Value) (S : FT), nx cod_X6_readyAt cut_X6_readyAt K (n + 1) 0 L st S = (O_iload 1 1) (nx cod_X6_readyAt cut_X6_readyAt K n) 0 L st S) ∧
  (∀ (K : Kt FT) (n : Nat) (L : xL) (st : List Value) (S : FT), nx cod_X6_readyAt cut_X6_readyAt K (n + 1) 1 L st S = (O_if_ge 7) (nx cod_X6_readyAt cut_X6_readyAt K n) 1 L st S) ∧
  (∀ (K : Kt FT) (n : Nat) (L : xL) (st : List Value) (S : FT), nx cod_X6_readyAt cut_X6_readyAt K (n + 1) 4 L st S = (O_int (-1000001) 2) (nx cod_X6_readyAt cut_X6_readyAt K n) 4 L st S) ∧
  (∀ (K : Kt FT) (n : Nat) (L : xL) (st : List Value) (S : FT), nx cod_X6_readyAt cut_X6_readyAt K (n + 1) 6 L st S = (O_iret) (nx cod_X6_readyAt cut_X6_readyAt K n) 6 L st S) ∧
  (∀ (K : Kt FT) (n : Nat) (L : xL) (st : List Value) (S : FT), nx cod_X6_readyAt cut_X6_readyAt K (n + 1) 7 L st S = (O_aload 0 1) (nx cod_X6_readyAt cut_X6_readyAt K n) 7 L st S) ∧
  (∀ (K : Kt FT) (n : Nat) (L : xL) (st : List Value) (S : FT), nx cod_X6_readyAt cut_X6_readyAt K (n + 1) 8 L st S = (O_getf fpW 6 0) (nx cod_X6_readyAt cut_X6_readyAt K n) 8 L st S) ∧
  (∀ (K : Kt FT) (n : Nat) (L : xL) (st : List Value) (S : FT), nx cod_X6_readyAt cut_X6_readyAt K (n + 1) 11 L st S = (O_getf fpW 4 1) (nx cod_X6_readyAt cut_X6_readyAt K n) 11 L st S) ∧
  (∀ (K : Kt FT) (n : Nat) (L : xL) (st : List Value) (S : FT), nx cod_X6_readyAt cut_X6_readyAt K (n + 1) 14 L st S = (O_iload 1 1) (nx cod_X6_readyAt cut_X6_readyAt K n) 14 L st S) ∧
  (∀ (K : Kt FT) (n : Nat) (L : xL) (st : List Value) (S : FT), nx cod_X6_readyAt cut_X6_readyAt K (n + 1) 15 L st S = (O_callV 1 3 (fun S : FT => S.now.P) (fun S u => S.sNow (S.now.sP u)) sp_X3_readyInOrder) (nx cod_X6_readyAt cut_X6_readyAt K n) 15 L st S) ∧
  (∀ (K : Kt FT) (n : Nat) (L : xL) (st : List Value) (S : FT), nx cod_X6_readyAt cut_X6_readyAt K (n + 1) 18 L st S = (O_istore 2 1) (nx cod_X6_readyAt cut_X6_readyAt K n) 18 L st S) ∧
  (∀ (K : Kt FT) (n : Nat) (L : xL) (st : List Value) (S : FT), nx cod_X6_readyAt cut_X6_readyAt K (n + 1) 19 L st S = (O_iload 2 1) (nx cod_X6_readyAt cut_X6_readyAt K n) 19 L st S) ∧
  (∀ (K : Kt FT) (n : Nat) (L : xL) (st : List Value) (S : FT), nx cod_X6_readyAt cut_X6_readyAt K (n + 1) 20 L st S = (O_int (-1) 1) (nx cod_X6_readyAt cut_X6_readyAt K n) 20 L st S) ∧
  (∀ (K : Kt FT) (n : Nat) (L : xL) (st : List Value) (S : FT), nx cod_X6_readyAt cut_X6_readyAt K (n + 1) 21 L st S = (O_icmp_ne 29) (nx cod_X6_readyAt cut_X6_readyAt K n) 21 L st S) ∧
  (∀ (K : Kt FT) (n : Nat) (L : xL) (st : List Value) (S : FT), nx cod_X6_readyAt cut_X6_readyAt K (n + 1) 24 L st S = (O_int (-1000004) 2) (nx cod_X6_readyAt cut_X6_readyAt K n) 24 L st S) ∧
  (∀ (K : Kt FT) (n : Nat) (L : xL) (st : List Value) (S : FT), nx cod_X6_readyAt cut_X6_readyAt K (n + 1) 26 L st S = (O_goto 30) (nx cod_X6_readyAt cut_X6_readyAt K n) 26 L st S) ∧
  (∀ (K : Kt FT) (n : Nat) (L : xL) (st : List Value) (S : FT), nx cod_X6_readyAt cut_X6_readyAt K (n + 1) 29 L st S = (O_iload 2 1) (nx cod_X6_readyAt cut_X6_readyAt K n) 29 L st S) ∧
  (∀ (K : Kt FT) (n : Nat) (L : xL) (st : List Value) (S : FT), nx cod_X6_readyAt cut_X6_readyAt K (n + 1) 30 L st S = (O_iret) (nx cod_X6_readyAt cut_X6_readyAt K n) 30 L st S) ∧
  (∀ (K : Kt FT) (n : Nat) (L : xL) (st : List Value) (S : FT), nx cod_X6_readyAt cut_X6_readyAt K (n + 1) 100000 L st S = K 100000 L st S) := by
  repeat' apply And.intro
  all_goals (intros; rfl)
set_option maxRecDepth 100000 in
theorem mk_X6_readyAt {P P' : FT} {r : Option Value} {p0 : Int32} (body : ∀ E : En, CodOk E fpW cod_X6_readyAt → Gd E fpW 100000 [] r.toList P' → Gd E fpW 0 [some (.ref 0), some (.int p0), none] [] P) : Con yX6_readyAt cX6_readyAt 3 (some .int) 3 fpW [.ref 0, .int p0] P r P' :=
  Con.of (by decide) rfl rfl (Nat.le_of_ble_eq_true rfl) (fun E F G hr => body E (okc_X6_readyAt F G) hr)
set_option maxRecDepth 10000 in
theorem con_X6_readyAt (S : FT) (i : Int32) (hp : S.good) : Con yX6_readyAt cX6_readyAt 3 (some .int) 3 fpW [.ref 0, .int i] S (some (.int (if i < 0 then -1000001 else if oI (S.now.P.inOrd i) = -1 then -1000004 else oI (S.now.P.inOrd i)))) (S) := by
  refine mk_X6_readyAt (fun E C hr => ?_)
  have h3 := hp.2.1.1.1
  clear hp
  (refine nx_ok C (cuts := cut_X6_readyAt) 1000 _ _ _ _ ?_; simp only [w_X6_readyAt, ops_eq, xst_eq, call_eq, oK_eq, Option.toList_some, Option.toList_none, List.cons_append, List.nil_append, List.length_cons, List.length_nil, true_and, and_true, Nat.reduceAdd, fpW_F, fpW_A, fpW_S, fpW_P, FT_id, ST_id, FT_gs, ST_gs, PT_gs, ZT_gs, NT_gs, ET_gs, OT_gs, se_X3_readyInOrder, bI_eq, h3])
  ((repeat' (with_reducible first | apply And.intro | intro _)) <;> simp_all [FT_id, ST_id, FT_gs, ST_gs, PT_gs, ZT_gs, NT_gs, ET_gs, OT_gs])
def sp_X6_readyAt : Sp FT := fun av S K => match av with
  | [.ref 0, .int i] => (S.good) ∧ K (some (.int (if i < 0 then -1000001 else if oI (S.now.P.inOrd i) = -1 then -1000004 else oI (S.now.P.inOrd i)))) (S)
  | _ => False
theorem se_X6_readyAt (i : Int32) (S : FT) (K : Option Value → FT → Prop) : sp_X6_readyAt [.ref 0, .int i] S K = ((S.good) ∧ K (some (.int (if i < 0 then -1000001 else if oI (S.now.P.inOrd i) = -1 then -1000004 else oI (S.now.P.inOrd i)))) (S)) := rfl
theorem spok_X6_readyAt : SpOk yX6_readyAt cX6_readyAt 3 (some .int) 3 fpW sp_X6_readyAt := by
  intro av S K h
  unfold sp_X6_readyAt at h
  split at h
  · rename_i i; exact ⟨some (.int (if i < 0 then -1000001 else if oI (S.now.P.inOrd i) = -1 then -1000004 else oI (S.now.P.inOrd i))), S, trivial, con_X6_readyAt S i h.1, h.2⟩
  · exact h.elim
def cod_X6_balance : List (Nat × Op FT) := [(0, O_aload 0 1), (1, O_getf fpW 6 0), (4, O_getf fpW 4 1), (7, O_getf fpW 3 8), (10, O_if_ne 18), (13, O_int (-1000004) 2), (15, O_goto 28), (18, O_aload 0 1), (19, O_getf fpW 6 0), (22, O_getf fpW 4 1), (25, O_callV 0 3 (fun S : FT => S.now.P) (fun S u => S.sNow (S.now.sP u)) sp_X3_differenceOfMinutes), (28, O_iret)]
abbrev cut_X6_balance : List Nat := []
set_option maxRecDepth 100000 in
theorem okc_X6_balance {E : En} (F : Fx E RX6 cX6_balance 1 2) (G : Fr E (some .int)) : CodOk E fpW cod_X6_balance := by
  unfold CodOk cod_X6_balance
  refine List.forall_mem_cons.mpr ⟨ok_aload_n F dX6_balance_0 rfl (by decide), ?_⟩
  refine List.forall_mem_cons.mpr ⟨ok_getf F flX6_10 dX6_balance_1 (by decide), ?_⟩
  refine List.forall_mem_cons.mpr ⟨ok_getf F flX6_50 dX6_balance_4 (by decide), ?_⟩
  refine List.forall_mem_cons.mpr ⟨ok_getf F flX6_54 dX6_balance_7 (by decide), ?_⟩
  refine List.forall_mem_cons.mpr ⟨ok_if_ne F dX6_balance_10 (by decide) (by decide) (by decide), ?_⟩
  refine List.forall_mem_cons.mpr ⟨ok_ldc F (ix := 110) (wsHas_mem (l := [Jvm.Cond.constant RX6 110 (-1000004)]) (by decide +kernel) (by simp)) dX6_balance_13 (by decide), ?_⟩
  refine List.forall_mem_cons.mpr ⟨ok_goto F dX6_balance_15 (by decide) (by decide) (by decide), ?_⟩
  refine List.forall_mem_cons.mpr ⟨ok_aload_n F dX6_balance_18 rfl (by decide), ?_⟩
  refine List.forall_mem_cons.mpr ⟨ok_getf F flX6_10 dX6_balance_19 (by decide), ?_⟩
  refine List.forall_mem_cons.mpr ⟨ok_getf F flX6_50 dX6_balance_22 (by decide), ?_⟩
  refine List.forall_mem_cons.mpr ⟨ok_callV F spok_X3_differenceOfMinutes ln_fp_now_P rcv_pW (by decide +kernel) (by decide) dX6_balance_25 (by decide), ?_⟩
  refine List.forall_mem_cons.mpr ⟨ok_iret F G dX6_balance_28 (by decide), ?_⟩
  exact fun _ h => absurd h List.not_mem_nil
set_option maxRecDepth 100000 in
theorem w_X6_balance : (∀ (K : Kt FT) (n : Nat) (L : xL) (st : List Value) (S : FT), nx cod_X6_balance cut_X6_balance K (n + 1) 0 L st S = (O_aload 0 1) (nx cod_X6_balance cut_X6_balance K n) 0 L st S) ∧
  (∀ (K : Kt FT) (n : Nat) (L : xL) (st : List Value) (S : FT), nx cod_X6_balance cut_X6_balance K (n + 1) 1 L st S = (O_getf fpW 6 0) (nx cod_X6_balance cut_X6_balance K n) 1 L st S) ∧
  (∀ (K : Kt FT) (n : Nat) (L : xL) (st : List Value) (S : FT), nx cod_X6_balance cut_X6_balance K (n + 1) 4 L st S = (O_getf fpW 4 1) (nx cod_X6_balance cut_X6_balance K n) 4 L st S) ∧
  (∀ (K : Kt FT) (n : Nat) (L : xL) (st : List Value) (S : FT), nx cod_X6_balance cut_X6_balance K (n + 1) 7 L st S = (O_getf fpW 3 8) (nx cod_X6_balance cut_X6_balance K n) 7 L st S) ∧
  (∀ (K : Kt FT) (n : Nat) (L : xL) (st : List Value) (S : FT), nx cod_X6_balance cut_X6_balance K (n + 1) 10 L st S = (O_if_ne 18) (nx cod_X6_balance cut_X6_balance K n) 10 L st S) ∧
  (∀ (K : Kt FT) (n : Nat) (L : xL) (st : List Value) (S : FT), nx cod_X6_balance cut_X6_balance K (n + 1) 13 L st S = (O_int (-1000004) 2) (nx cod_X6_balance cut_X6_balance K n) 13 L st S) ∧
  (∀ (K : Kt FT) (n : Nat) (L : xL) (st : List Value) (S : FT), nx cod_X6_balance cut_X6_balance K (n + 1) 15 L st S = (O_goto 28) (nx cod_X6_balance cut_X6_balance K n) 15 L st S) ∧
  (∀ (K : Kt FT) (n : Nat) (L : xL) (st : List Value) (S : FT), nx cod_X6_balance cut_X6_balance K (n + 1) 18 L st S = (O_aload 0 1) (nx cod_X6_balance cut_X6_balance K n) 18 L st S) ∧
  (∀ (K : Kt FT) (n : Nat) (L : xL) (st : List Value) (S : FT), nx cod_X6_balance cut_X6_balance K (n + 1) 19 L st S = (O_getf fpW 6 0) (nx cod_X6_balance cut_X6_balance K n) 19 L st S) ∧
  (∀ (K : Kt FT) (n : Nat) (L : xL) (st : List Value) (S : FT), nx cod_X6_balance cut_X6_balance K (n + 1) 22 L st S = (O_getf fpW 4 1) (nx cod_X6_balance cut_X6_balance K n) 22 L st S) ∧
  (∀ (K : Kt FT) (n : Nat) (L : xL) (st : List Value) (S : FT), nx cod_X6_balance cut_X6_balance K (n + 1) 25 L st S = (O_callV 0 3 (fun S : FT => S.now.P) (fun S u => S.sNow (S.now.sP u)) sp_X3_differenceOfMinutes) (nx cod_X6_balance cut_X6_balance K n) 25 L st S) ∧
  (∀ (K : Kt FT) (n : Nat) (L : xL) (st : List Value) (S : FT), nx cod_X6_balance cut_X6_balance K (n + 1) 28 L st S = (O_iret) (nx cod_X6_balance cut_X6_balance K n) 28 L st S) ∧
  (∀ (K : Kt FT) (n : Nat) (L : xL) (st : List Value) (S : FT), nx cod_X6_balance cut_X6_balance K (n + 1) 100000 L st S = K 100000 L st S) := by
  repeat' apply And.intro
  all_goals (intros; rfl)
set_option maxRecDepth 100000 in
theorem mk_X6_balance {P P' : FT} {r : Option Value}  (body : ∀ E : En, CodOk E fpW cod_X6_balance → Gd E fpW 100000 [] r.toList P' → Gd E fpW 0 [some (.ref 0)] [] P) : Con yX6_balance cX6_balance 1 (some .int) 2 fpW [.ref 0] P r P' :=
  Con.of (by decide) rfl rfl (Nat.le_of_ble_eq_true rfl) (fun E F G hr => body E (okc_X6_balance F G) hr)
set_option maxRecDepth 10000 in
theorem con_X6_balance (S : FT)  (hp : S.good) : Con yX6_balance cX6_balance 1 (some .int) 2 fpW [.ref 0] S (some (.int (if S.now.P.size = 0 then -1000004 else S.now.P.mm.2 - S.now.P.mm.1))) (S) := by
  refine mk_X6_balance (fun E C hr => ?_)
  have h3 := hp.2.1.1.1
  have h4 : ¬ S.now.P.size = 0 → 0 < S.now.P.n := fun h => by
    rcases Nat.eq_zero_or_pos S.now.P.n with q | q
    · exact absurd (by rw [h3.1, q]; rfl) h
    · exact q
  clear hp
  (refine nx_ok C (cuts := cut_X6_balance) 1000 _ _ _ _ ?_; simp only [w_X6_balance, ops_eq, xst_eq, call_eq, oK_eq, Option.toList_some, Option.toList_none, List.cons_append, List.nil_append, List.length_cons, List.length_nil, true_and, and_true, Nat.reduceAdd, fpW_F, fpW_A, fpW_S, fpW_P, FT_id, ST_id, FT_gs, ST_gs, PT_gs, ZT_gs, NT_gs, ET_gs, OT_gs, se_X3_differenceOfMinutes, bI_eq, h3])
  ((repeat' (with_reducible first | apply And.intro | intro _)) <;> simp_all [FT_id, ST_id, FT_gs, ST_gs, PT_gs, ZT_gs, NT_gs, ET_gs, OT_gs])
def sp_X6_balance : Sp FT := fun av S K => match av with
  | [.ref 0] => (S.good) ∧ K (some (.int (if S.now.P.size = 0 then -1000004 else S.now.P.mm.2 - S.now.P.mm.1))) (S)
  | _ => False
theorem se_X6_balance  (S : FT) (K : Option Value → FT → Prop) : sp_X6_balance [.ref 0] S K = ((S.good) ∧ K (some (.int (if S.now.P.size = 0 then -1000004 else S.now.P.mm.2 - S.now.P.mm.1))) (S)) := rfl
theorem spok_X6_balance : SpOk yX6_balance cX6_balance 1 (some .int) 2 fpW sp_X6_balance := by
  intro av S K h
  unfold sp_X6_balance at h
  split at h
  · exact ⟨some (.int (if S.now.P.size = 0 then -1000004 else S.now.P.mm.2 - S.now.P.mm.1)), S, trivial, con_X6_balance S  h.1, h.2⟩
  · exact h.elim
theorem flX6_115 : fldOk RX6 115 4 2 = true := by decide +kernel
theorem flX6_119 : fldOk RX6 119 5 2 = true := by decide +kernel
def cod_X6_zone : List (Nat × Op FT) := [(0, O_iload 1 1), (1, O_int 1 1), (2, O_int 1000 3), (5, O_callS 3 sp_X6_within), (8, O_if_ne 14), (11, O_int (-1000001) 2), (13, O_iret), (14, O_aload 0 1), (15, O_getf fpW 6 0), (18, O_getf fpW 4 2), (21, O_getf fpW 5 2), (24, O_int 8 2), (26, O_icmp_lt 32), (29, O_int (-1000003) 2), (31, O_iret), (32, O_aload 0 1), (33, O_callV 0 0 (fun S => S) (fun _ S' => S') sp_X6_remember), (36, O_aload 0 1), (37, O_getf fpW 6 0), (40, O_getf fpW 4 2), (43, O_iload 1 1), (44, O_callV 1 12 (fun S : FT => S.now.Z) (fun S u => S.sNow (S.now.sZ u)) sp_X5_add), (47, O_iret)]
abbrev cut_X6_zone : List Nat := []
set_option maxRecDepth 100000 in
theorem okc_X6_zone {E : En} (F : Fx E RX6 cX6_zone 2 4) (G : Fr E (some .int)) : CodOk E fpW cod_X6_zone := by
  unfold CodOk cod_X6_zone
  refine List.forall_mem_cons.mpr ⟨ok_iload_n F dX6_zone_0 rfl (by decide), ?_⟩
  refine List.forall_mem_cons.mpr ⟨ok_iconst F dX6_zone_1 (by decide) (by decide), ?_⟩
  refine List.forall_mem_cons.mpr ⟨ok_sipush F dX6_zone_2 (by decide) (by decide), ?_⟩
  refine List.forall_mem_cons.mpr ⟨ok_callS F spok_X6_within (by decide +kernel) rfl (by decide) dX6_zone_5 (by decide), ?_⟩
  refine List.forall_mem_cons.mpr ⟨ok_if_ne F dX6_zone_8 (by decide) (by decide) (by decide), ?_⟩
  refine List.forall_mem_cons.mpr ⟨ok_ldc F (ix := 41) (wsHas_mem (l := [Jvm.Cond.constant RX6 41 (-1000001)]) (by decide +kernel) (by simp)) dX6_zone_11 (by decide), ?_⟩
  refine List.forall_mem_cons.mpr ⟨ok_iret F G dX6_zone_13 (by decide), ?_⟩
  refine List.forall_mem_cons.mpr ⟨ok_aload_n F dX6_zone_14 rfl (by decide), ?_⟩
  refine List.forall_mem_cons.mpr ⟨ok_getf F flX6_10 dX6_zone_15 (by decide), ?_⟩
  refine List.forall_mem_cons.mpr ⟨ok_getf F flX6_115 dX6_zone_18 (by decide), ?_⟩
  refine List.forall_mem_cons.mpr ⟨ok_getf F flX6_119 dX6_zone_21 (by decide), ?_⟩
  refine List.forall_mem_cons.mpr ⟨ok_bipush F dX6_zone_24 (by decide) (by decide), ?_⟩
  refine List.forall_mem_cons.mpr ⟨ok_icmp_lt F dX6_zone_26 (by decide) (by decide) (by decide), ?_⟩
  refine List.forall_mem_cons.mpr ⟨ok_ldc F (ix := 58) (wsHas_mem (l := [Jvm.Cond.constant RX6 58 (-1000003)]) (by decide +kernel) (by simp)) dX6_zone_29 (by decide), ?_⟩
  refine List.forall_mem_cons.mpr ⟨ok_iret F G dX6_zone_31 (by decide), ?_⟩
  refine List.forall_mem_cons.mpr ⟨ok_aload_n F dX6_zone_32 rfl (by decide), ?_⟩
  refine List.forall_mem_cons.mpr ⟨ok_callV F spok_X6_remember (ln_id fpW) rcv_fpW (by decide +kernel) (by decide) dX6_zone_33 (by decide), ?_⟩
  refine List.forall_mem_cons.mpr ⟨ok_aload_n F dX6_zone_36 rfl (by decide), ?_⟩
  refine List.forall_mem_cons.mpr ⟨ok_getf F flX6_10 dX6_zone_37 (by decide), ?_⟩
  refine List.forall_mem_cons.mpr ⟨ok_getf F flX6_115 dX6_zone_40 (by decide), ?_⟩
  refine List.forall_mem_cons.mpr ⟨ok_iload_n F dX6_zone_43 rfl (by decide), ?_⟩
  refine List.forall_mem_cons.mpr ⟨ok_callV F spok_X5_add ln_fp_now_Z rcv_zW (by decide +kernel) (by decide) dX6_zone_44 (by decide), ?_⟩
  refine List.forall_mem_cons.mpr ⟨ok_iret F G dX6_zone_47 (by decide), ?_⟩
  exact fun _ h => absurd h List.not_mem_nil
set_option maxRecDepth 100000 in
theorem w_X6_zone : (∀ (K : Kt FT) (n : Nat) (L : xL) (st : List Value) (S : FT), nx cod_X6_zone cut_X6_zone K (n + 1) 0 L st S = (O_iload 1 1) (nx cod_X6_zone cut_X6_zone K n) 0 L st S) ∧
  (∀ (K : Kt FT) (n : Nat) (L : xL) (st : List Value) (S : FT), nx cod_X6_zone cut_X6_zone K (n + 1) 1 L st S = (O_int 1 1) (nx cod_X6_zone cut_X6_zone K n) 1 L st S) ∧
  (∀ (K : Kt FT) (n : Nat) (L : xL) (st : List Value) (S : FT), nx cod_X6_zone cut_X6_zone K (n + 1) 2 L st S = (O_int 1000 3) (nx cod_X6_zone cut_X6_zone K n) 2 L st S) ∧
  (∀ (K : Kt FT) (n : Nat) (L : xL) (st : List Value) (S : FT), nx cod_X6_zone cut_X6_zone K (n + 1) 5 L st S = (O_callS 3 sp_X6_within) (nx cod_X6_zone cut_X6_zone K n) 5 L st S) ∧
  (∀ (K : Kt FT) (n : Nat) (L : xL) (st : List Value) (S : FT), nx cod_X6_zone cut_X6_zone K (n + 1) 8 L st S = (O_if_ne 14) (nx cod_X6_zone cut_X6_zone K n) 8 L st S) ∧
  (∀ (K : Kt FT) (n : Nat) (L : xL) (st : List Value) (S : FT), nx cod_X6_zone cut_X6_zone K (n + 1) 11 L st S = (O_int (-1000001) 2) (nx cod_X6_zone cut_X6_zone K n) 11 L st S) ∧
  (∀ (K : Kt FT) (n : Nat) (L : xL) (st : List Value) (S : FT), nx cod_X6_zone cut_X6_zone K (n + 1) 13 L st S = (O_iret) (nx cod_X6_zone cut_X6_zone K n) 13 L st S) ∧
  (∀ (K : Kt FT) (n : Nat) (L : xL) (st : List Value) (S : FT), nx cod_X6_zone cut_X6_zone K (n + 1) 14 L st S = (O_aload 0 1) (nx cod_X6_zone cut_X6_zone K n) 14 L st S) ∧
  (∀ (K : Kt FT) (n : Nat) (L : xL) (st : List Value) (S : FT), nx cod_X6_zone cut_X6_zone K (n + 1) 15 L st S = (O_getf fpW 6 0) (nx cod_X6_zone cut_X6_zone K n) 15 L st S) ∧
  (∀ (K : Kt FT) (n : Nat) (L : xL) (st : List Value) (S : FT), nx cod_X6_zone cut_X6_zone K (n + 1) 18 L st S = (O_getf fpW 4 2) (nx cod_X6_zone cut_X6_zone K n) 18 L st S) ∧
  (∀ (K : Kt FT) (n : Nat) (L : xL) (st : List Value) (S : FT), nx cod_X6_zone cut_X6_zone K (n + 1) 21 L st S = (O_getf fpW 5 2) (nx cod_X6_zone cut_X6_zone K n) 21 L st S) ∧
  (∀ (K : Kt FT) (n : Nat) (L : xL) (st : List Value) (S : FT), nx cod_X6_zone cut_X6_zone K (n + 1) 24 L st S = (O_int 8 2) (nx cod_X6_zone cut_X6_zone K n) 24 L st S) ∧
  (∀ (K : Kt FT) (n : Nat) (L : xL) (st : List Value) (S : FT), nx cod_X6_zone cut_X6_zone K (n + 1) 26 L st S = (O_icmp_lt 32) (nx cod_X6_zone cut_X6_zone K n) 26 L st S) ∧
  (∀ (K : Kt FT) (n : Nat) (L : xL) (st : List Value) (S : FT), nx cod_X6_zone cut_X6_zone K (n + 1) 29 L st S = (O_int (-1000003) 2) (nx cod_X6_zone cut_X6_zone K n) 29 L st S) ∧
  (∀ (K : Kt FT) (n : Nat) (L : xL) (st : List Value) (S : FT), nx cod_X6_zone cut_X6_zone K (n + 1) 31 L st S = (O_iret) (nx cod_X6_zone cut_X6_zone K n) 31 L st S) ∧
  (∀ (K : Kt FT) (n : Nat) (L : xL) (st : List Value) (S : FT), nx cod_X6_zone cut_X6_zone K (n + 1) 32 L st S = (O_aload 0 1) (nx cod_X6_zone cut_X6_zone K n) 32 L st S) ∧
  (∀ (K : Kt FT) (n : Nat) (L : xL) (st : List Value) (S : FT), nx cod_X6_zone cut_X6_zone K (n + 1) 33 L st S = (O_callV 0 0 (fun S => S) (fun _ S' => S') sp_X6_remember) (nx cod_X6_zone cut_X6_zone K n) 33 L st S) ∧
  (∀ (K : Kt FT) (n : Nat) (L : xL) (st : List Value) (S : FT), nx cod_X6_zone cut_X6_zone K (n + 1) 36 L st S = (O_aload 0 1) (nx cod_X6_zone cut_X6_zone K n) 36 L st S) ∧
  (∀ (K : Kt FT) (n : Nat) (L : xL) (st : List Value) (S : FT), nx cod_X6_zone cut_X6_zone K (n + 1) 37 L st S = (O_getf fpW 6 0) (nx cod_X6_zone cut_X6_zone K n) 37 L st S) ∧
  (∀ (K : Kt FT) (n : Nat) (L : xL) (st : List Value) (S : FT), nx cod_X6_zone cut_X6_zone K (n + 1) 40 L st S = (O_getf fpW 4 2) (nx cod_X6_zone cut_X6_zone K n) 40 L st S) ∧
  (∀ (K : Kt FT) (n : Nat) (L : xL) (st : List Value) (S : FT), nx cod_X6_zone cut_X6_zone K (n + 1) 43 L st S = (O_iload 1 1) (nx cod_X6_zone cut_X6_zone K n) 43 L st S) ∧
  (∀ (K : Kt FT) (n : Nat) (L : xL) (st : List Value) (S : FT), nx cod_X6_zone cut_X6_zone K (n + 1) 44 L st S = (O_callV 1 12 (fun S : FT => S.now.Z) (fun S u => S.sNow (S.now.sZ u)) sp_X5_add) (nx cod_X6_zone cut_X6_zone K n) 44 L st S) ∧
  (∀ (K : Kt FT) (n : Nat) (L : xL) (st : List Value) (S : FT), nx cod_X6_zone cut_X6_zone K (n + 1) 47 L st S = (O_iret) (nx cod_X6_zone cut_X6_zone K n) 47 L st S) ∧
  (∀ (K : Kt FT) (n : Nat) (L : xL) (st : List Value) (S : FT), nx cod_X6_zone cut_X6_zone K (n + 1) 100000 L st S = K 100000 L st S) := by
  repeat' apply And.intro
  all_goals (intros; rfl)
set_option maxRecDepth 100000 in
theorem mk_X6_zone {P P' : FT} {r : Option Value} {p0 : Int32} (body : ∀ E : En, CodOk E fpW cod_X6_zone → Gd E fpW 100000 [] r.toList P' → Gd E fpW 0 [some (.ref 0), some (.int p0)] [] P) : Con yX6_zone cX6_zone 2 (some .int) 4 fpW [.ref 0, .int p0] P r P' :=
  Con.of (by decide) rfl rfl (Nat.le_of_ble_eq_true rfl) (fun E F G hr => body E (okc_X6_zone F G) hr)
set_option maxRecDepth 10000 in
theorem con_X6_zone (S : FT) (d : Int32) (hp : S.good) : Con yX6_zone cX6_zone 2 (some .int) 4 fpW [.ref 0, .int d] S (some (.int (if inR d 1 1000 = false then -1000001 else if S.now.Z.size < 8 then S.now.Z.size else -1000003))) (if inR d 1 1000 = true ∧ S.now.Z.size < 8 then S.remember.sNow (S.now.sZ (S.now.Z.add d)) else S) := by
  refine mk_X6_zone (fun E C hr => ?_)
  have h1 := hp.1
  have h2 := hp.2.1.2
  have h3 := hp.2.1.1.2.1
  clear hp
  (refine nx_ok C (cuts := cut_X6_zone) 1000 _ _ _ _ ?_; simp only [w_X6_zone, ops_eq, xst_eq, call_eq, oK_eq, Option.toList_some, Option.toList_none, List.cons_append, List.nil_append, List.length_cons, List.length_nil, true_and, and_true, Nat.reduceAdd, fpW_F, fpW_A, fpW_S, fpW_P, FT_id, ST_id, FT_gs, ST_gs, PT_gs, ZT_gs, NT_gs, ET_gs, OT_gs, se_X6_within, se_X6_remember, se_X5_add, bI_eq, rmb_eq, h1, h2, h3])
  ((repeat' (with_reducible first | apply And.intro | intro _)) <;> simp_all [FT_id, ST_id, FT_gs, ST_gs, PT_gs, ZT_gs, NT_gs, ET_gs, OT_gs])
def sp_X6_zone : Sp FT := fun av S K => match av with
  | [.ref 0, .int d] => (S.good) ∧ K (some (.int (if inR d 1 1000 = false then -1000001 else if S.now.Z.size < 8 then S.now.Z.size else -1000003))) (if inR d 1 1000 = true ∧ S.now.Z.size < 8 then S.remember.sNow (S.now.sZ (S.now.Z.add d)) else S)
  | _ => False
theorem se_X6_zone (d : Int32) (S : FT) (K : Option Value → FT → Prop) : sp_X6_zone [.ref 0, .int d] S K = ((S.good) ∧ K (some (.int (if inR d 1 1000 = false then -1000001 else if S.now.Z.size < 8 then S.now.Z.size else -1000003))) (if inR d 1 1000 = true ∧ S.now.Z.size < 8 then S.remember.sNow (S.now.sZ (S.now.Z.add d)) else S)) := rfl
theorem spok_X6_zone : SpOk yX6_zone cX6_zone 2 (some .int) 4 fpW sp_X6_zone := by
  intro av S K h
  unfold sp_X6_zone at h
  split at h
  · rename_i d; exact ⟨some (.int (if inR d 1 1000 = false then -1000001 else if S.now.Z.size < 8 then S.now.Z.size else -1000003)), if inR d 1 1000 = true ∧ S.now.Z.size < 8 then S.remember.sNow (S.now.sZ (S.now.Z.add d)) else S, trivial, con_X6_zone S d h.1, h.2⟩
  · exact h.elim
def FT.okOpen (S : FT) (z is : Int32) : Bool := S.now.Z.has z && inR is 0 1
theorem ZT_ok : ∀ (S : ZT) (x : Nat → Int32), (S.sIsOpen x).ok = S.ok := fun _ _ => rfl
theorem flX6_125 : fldOk RX6 125 5 1 = true := by decide +kernel
def cod_X6_open : List (Nat × Op FT) := [(0, O_aload 0 1), (1, O_getf fpW 6 0), (4, O_getf fpW 4 2), (7, O_iload 1 1), (8, O_callV 1 12 (fun S : FT => S.now.Z) (fun S u => S.sNow (S.now.sZ u)) sp_X5_has), (11, O_if_eq 23), (14, O_iload 2 1), (15, O_int 0 1), (16, O_int 1 1), (17, O_callS 3 sp_X6_within), (20, O_if_ne 26), (23, O_int (-1000001) 2), (25, O_iret), (26, O_iload 2 1), (27, O_int 1 1), (28, O_icmp_ne 35), (31, O_int 1 1), (32, O_goto 36), (35, O_int 0 1), (36, O_istore 3 1), (37, O_aload 0 1), (38, O_getf fpW 6 0), (41, O_getf fpW 4 2), (44, O_getf fpW 5 1), (47, O_iload 1 1), (48, O_ald fpW 1), (49, O_iload 3 1), (50, O_icmp_ne 56), (53, O_int (-1000002) 2), (55, O_iret), (56, O_aload 0 1), (57, O_callV 0 0 (fun S => S) (fun _ S' => S') sp_X6_remember), (60, O_aload 0 1), (61, O_getf fpW 6 0), (64, O_getf fpW 4 2), (67, O_getf fpW 5 1), (70, O_iload 1 1), (71, O_iload 3 1), (72, O_ast fpW 1 fpW_sa), (73, O_aload 0 1), (74, O_getf fpW 6 0), (77, O_getf fpW 4 2), (80, O_callV 0 12 (fun S : FT => S.now.Z) (fun S u => S.sNow (S.now.sZ u)) sp_X5_openOnes), (83, O_iret)]
abbrev cut_X6_open : List Nat := []
set_option maxRecDepth 100000 in
theorem okc_X6_open {E : En} (F : Fx E RX6 cX6_open 4 4) (G : Fr E (some .int)) : CodOk E fpW cod_X6_open := by
  unfold CodOk cod_X6_open
  refine List.forall_mem_cons.mpr ⟨ok_aload_n F dX6_open_0 rfl (by decide), ?_⟩
  refine List.forall_mem_cons.mpr ⟨ok_getf F flX6_10 dX6_open_1 (by decide), ?_⟩
  refine List.forall_mem_cons.mpr ⟨ok_getf F flX6_115 dX6_open_4 (by decide), ?_⟩
  refine List.forall_mem_cons.mpr ⟨ok_iload_n F dX6_open_7 rfl (by decide), ?_⟩
  refine List.forall_mem_cons.mpr ⟨ok_callV F spok_X5_has ln_fp_now_Z rcv_zW (by decide +kernel) (by decide) dX6_open_8 (by decide), ?_⟩
  refine List.forall_mem_cons.mpr ⟨ok_if_eq F dX6_open_11 (by decide) (by decide) (by decide), ?_⟩
  refine List.forall_mem_cons.mpr ⟨ok_iload_n F dX6_open_14 rfl (by decide), ?_⟩
  refine List.forall_mem_cons.mpr ⟨ok_iconst F dX6_open_15 (by decide) (by decide), ?_⟩
  refine List.forall_mem_cons.mpr ⟨ok_iconst F dX6_open_16 (by decide) (by decide), ?_⟩
  refine List.forall_mem_cons.mpr ⟨ok_callS F spok_X6_within (by decide +kernel) rfl (by decide) dX6_open_17 (by decide), ?_⟩
  refine List.forall_mem_cons.mpr ⟨ok_if_ne F dX6_open_20 (by decide) (by decide) (by decide), ?_⟩
  refine List.forall_mem_cons.mpr ⟨ok_ldc F (ix := 41) (wsHas_mem (l := [Jvm.Cond.constant RX6 41 (-1000001)]) (by decide +kernel) (by simp)) dX6_open_23 (by decide), ?_⟩
  refine List.forall_mem_cons.mpr ⟨ok_iret F G dX6_open_25 (by decide), ?_⟩
  refine List.forall_mem_cons.mpr ⟨ok_iload_n F dX6_open_26 rfl (by decide), ?_⟩
  refine List.forall_mem_cons.mpr ⟨ok_iconst F dX6_open_27 (by decide) (by decide), ?_⟩
  refine List.forall_mem_cons.mpr ⟨ok_icmp_ne F dX6_open_28 (by decide) (by decide) (by decide), ?_⟩
  refine List.forall_mem_cons.mpr ⟨ok_iconst F dX6_open_31 (by decide) (by decide), ?_⟩
  refine List.forall_mem_cons.mpr ⟨ok_goto F dX6_open_32 (by decide) (by decide) (by decide), ?_⟩
  refine List.forall_mem_cons.mpr ⟨ok_iconst F dX6_open_35 (by decide) (by decide), ?_⟩
  refine List.forall_mem_cons.mpr ⟨ok_istore_n F dX6_open_36 rfl (by decide) (by decide), ?_⟩
  refine List.forall_mem_cons.mpr ⟨ok_aload_n F dX6_open_37 rfl (by decide), ?_⟩
  refine List.forall_mem_cons.mpr ⟨ok_getf F flX6_10 dX6_open_38 (by decide), ?_⟩
  refine List.forall_mem_cons.mpr ⟨ok_getf F flX6_115 dX6_open_41 (by decide), ?_⟩
  refine List.forall_mem_cons.mpr ⟨ok_getf F flX6_125 dX6_open_44 (by decide), ?_⟩
  refine List.forall_mem_cons.mpr ⟨ok_iload_n F dX6_open_47 rfl (by decide), ?_⟩
  refine List.forall_mem_cons.mpr ⟨ok_zald F dX6_open_48 (by decide), ?_⟩
  refine List.forall_mem_cons.mpr ⟨ok_iload_n F dX6_open_49 rfl (by decide), ?_⟩
  refine List.forall_mem_cons.mpr ⟨ok_icmp_ne F dX6_open_50 (by decide) (by decide) (by decide), ?_⟩
  refine List.forall_mem_cons.mpr ⟨ok_ldc F (ix := 71) (wsHas_mem (l := [Jvm.Cond.constant RX6 71 (-1000002)]) (by decide +kernel) (by simp)) dX6_open_53 (by decide), ?_⟩
  refine List.forall_mem_cons.mpr ⟨ok_iret F G dX6_open_55 (by decide), ?_⟩
  refine List.forall_mem_cons.mpr ⟨ok_aload_n F dX6_open_56 rfl (by decide), ?_⟩
  refine List.forall_mem_cons.mpr ⟨ok_callV F spok_X6_remember (ln_id fpW) rcv_fpW (by decide +kernel) (by decide) dX6_open_57 (by decide), ?_⟩
  refine List.forall_mem_cons.mpr ⟨ok_aload_n F dX6_open_60 rfl (by decide), ?_⟩
  refine List.forall_mem_cons.mpr ⟨ok_getf F flX6_10 dX6_open_61 (by decide), ?_⟩
  refine List.forall_mem_cons.mpr ⟨ok_getf F flX6_115 dX6_open_64 (by decide), ?_⟩
  refine List.forall_mem_cons.mpr ⟨ok_getf F flX6_125 dX6_open_67 (by decide), ?_⟩
  refine List.forall_mem_cons.mpr ⟨ok_iload_n F dX6_open_70 rfl (by decide), ?_⟩
  refine List.forall_mem_cons.mpr ⟨ok_iload_n F dX6_open_71 rfl (by decide), ?_⟩
  refine List.forall_mem_cons.mpr ⟨ok_zast F fpW_sar dX6_open_72 (by decide), ?_⟩
  refine List.forall_mem_cons.mpr ⟨ok_aload_n F dX6_open_73 rfl (by decide), ?_⟩
  refine List.forall_mem_cons.mpr ⟨ok_getf F flX6_10 dX6_open_74 (by decide), ?_⟩
  refine List.forall_mem_cons.mpr ⟨ok_getf F flX6_115 dX6_open_77 (by decide), ?_⟩
  refine List.forall_mem_cons.mpr ⟨ok_callV F spok_X5_openOnes ln_fp_now_Z rcv_zW (by decide +kernel) (by decide) dX6_open_80 (by decide), ?_⟩
  refine List.forall_mem_cons.mpr ⟨ok_iret F G dX6_open_83 (by decide), ?_⟩
  exact fun _ h => absurd h List.not_mem_nil
set_option maxRecDepth 100000 in
theorem w_X6_open : (∀ (K : Kt FT) (n : Nat) (L : xL) (st : List Value) (S : FT), nx cod_X6_open cut_X6_open K (n + 1) 0 L st S = (O_aload 0 1) (nx cod_X6_open cut_X6_open K n) 0 L st S) ∧
  (∀ (K : Kt FT) (n : Nat) (L : xL) (st : List Value) (S : FT), nx cod_X6_open cut_X6_open K (n + 1) 1 L st S = (O_getf fpW 6 0) (nx cod_X6_open cut_X6_open K n) 1 L st S) ∧
  (∀ (K : Kt FT) (n : Nat) (L : xL) (st : List Value) (S : FT), nx cod_X6_open cut_X6_open K (n + 1) 4 L st S = (O_getf fpW 4 2) (nx cod_X6_open cut_X6_open K n) 4 L st S) ∧
  (∀ (K : Kt FT) (n : Nat) (L : xL) (st : List Value) (S : FT), nx cod_X6_open cut_X6_open K (n + 1) 7 L st S = (O_iload 1 1) (nx cod_X6_open cut_X6_open K n) 7 L st S) ∧
  (∀ (K : Kt FT) (n : Nat) (L : xL) (st : List Value) (S : FT), nx cod_X6_open cut_X6_open K (n + 1) 8 L st S = (O_callV 1 12 (fun S : FT => S.now.Z) (fun S u => S.sNow (S.now.sZ u)) sp_X5_has) (nx cod_X6_open cut_X6_open K n) 8 L st S) ∧
  (∀ (K : Kt FT) (n : Nat) (L : xL) (st : List Value) (S : FT), nx cod_X6_open cut_X6_open K (n + 1) 11 L st S = (O_if_eq 23) (nx cod_X6_open cut_X6_open K n) 11 L st S) ∧
  (∀ (K : Kt FT) (n : Nat) (L : xL) (st : List Value) (S : FT), nx cod_X6_open cut_X6_open K (n + 1) 14 L st S = (O_iload 2 1) (nx cod_X6_open cut_X6_open K n) 14 L st S) ∧
  (∀ (K : Kt FT) (n : Nat) (L : xL) (st : List Value) (S : FT), nx cod_X6_open cut_X6_open K (n + 1) 15 L st S = (O_int 0 1) (nx cod_X6_open cut_X6_open K n) 15 L st S) ∧
  (∀ (K : Kt FT) (n : Nat) (L : xL) (st : List Value) (S : FT), nx cod_X6_open cut_X6_open K (n + 1) 16 L st S = (O_int 1 1) (nx cod_X6_open cut_X6_open K n) 16 L st S) ∧
  (∀ (K : Kt FT) (n : Nat) (L : xL) (st : List Value) (S : FT), nx cod_X6_open cut_X6_open K (n + 1) 17 L st S = (O_callS 3 sp_X6_within) (nx cod_X6_open cut_X6_open K n) 17 L st S) ∧
  (∀ (K : Kt FT) (n : Nat) (L : xL) (st : List Value) (S : FT), nx cod_X6_open cut_X6_open K (n + 1) 20 L st S = (O_if_ne 26) (nx cod_X6_open cut_X6_open K n) 20 L st S) ∧
  (∀ (K : Kt FT) (n : Nat) (L : xL) (st : List Value) (S : FT), nx cod_X6_open cut_X6_open K (n + 1) 23 L st S = (O_int (-1000001) 2) (nx cod_X6_open cut_X6_open K n) 23 L st S) ∧
  (∀ (K : Kt FT) (n : Nat) (L : xL) (st : List Value) (S : FT), nx cod_X6_open cut_X6_open K (n + 1) 25 L st S = (O_iret) (nx cod_X6_open cut_X6_open K n) 25 L st S) ∧
  (∀ (K : Kt FT) (n : Nat) (L : xL) (st : List Value) (S : FT), nx cod_X6_open cut_X6_open K (n + 1) 26 L st S = (O_iload 2 1) (nx cod_X6_open cut_X6_open K n) 26 L st S) ∧
  (∀ (K : Kt FT) (n : Nat) (L : xL) (st : List Value) (S : FT), nx cod_X6_open cut_X6_open K (n + 1) 27 L st S = (O_int 1 1) (nx cod_X6_open cut_X6_open K n) 27 L st S) ∧
  (∀ (K : Kt FT) (n : Nat) (L : xL) (st : List Value) (S : FT), nx cod_X6_open cut_X6_open K (n + 1) 28 L st S = (O_icmp_ne 35) (nx cod_X6_open cut_X6_open K n) 28 L st S) ∧
  (∀ (K : Kt FT) (n : Nat) (L : xL) (st : List Value) (S : FT), nx cod_X6_open cut_X6_open K (n + 1) 31 L st S = (O_int 1 1) (nx cod_X6_open cut_X6_open K n) 31 L st S) ∧
  (∀ (K : Kt FT) (n : Nat) (L : xL) (st : List Value) (S : FT), nx cod_X6_open cut_X6_open K (n + 1) 32 L st S = (O_goto 36) (nx cod_X6_open cut_X6_open K n) 32 L st S) ∧
  (∀ (K : Kt FT) (n : Nat) (L : xL) (st : List Value) (S : FT), nx cod_X6_open cut_X6_open K (n + 1) 35 L st S = (O_int 0 1) (nx cod_X6_open cut_X6_open K n) 35 L st S) ∧
  (∀ (K : Kt FT) (n : Nat) (L : xL) (st : List Value) (S : FT), nx cod_X6_open cut_X6_open K (n + 1) 36 L st S = (O_istore 3 1) (nx cod_X6_open cut_X6_open K n) 36 L st S) ∧
  (∀ (K : Kt FT) (n : Nat) (L : xL) (st : List Value) (S : FT), nx cod_X6_open cut_X6_open K (n + 1) 37 L st S = (O_aload 0 1) (nx cod_X6_open cut_X6_open K n) 37 L st S) ∧
  (∀ (K : Kt FT) (n : Nat) (L : xL) (st : List Value) (S : FT), nx cod_X6_open cut_X6_open K (n + 1) 38 L st S = (O_getf fpW 6 0) (nx cod_X6_open cut_X6_open K n) 38 L st S) ∧
  (∀ (K : Kt FT) (n : Nat) (L : xL) (st : List Value) (S : FT), nx cod_X6_open cut_X6_open K (n + 1) 41 L st S = (O_getf fpW 4 2) (nx cod_X6_open cut_X6_open K n) 41 L st S) ∧
  (∀ (K : Kt FT) (n : Nat) (L : xL) (st : List Value) (S : FT), nx cod_X6_open cut_X6_open K (n + 1) 44 L st S = (O_getf fpW 5 1) (nx cod_X6_open cut_X6_open K n) 44 L st S) ∧
  (∀ (K : Kt FT) (n : Nat) (L : xL) (st : List Value) (S : FT), nx cod_X6_open cut_X6_open K (n + 1) 47 L st S = (O_iload 1 1) (nx cod_X6_open cut_X6_open K n) 47 L st S) ∧
  (∀ (K : Kt FT) (n : Nat) (L : xL) (st : List Value) (S : FT), nx cod_X6_open cut_X6_open K (n + 1) 48 L st S = (O_ald fpW 1) (nx cod_X6_open cut_X6_open K n) 48 L st S) ∧
  (∀ (K : Kt FT) (n : Nat) (L : xL) (st : List Value) (S : FT), nx cod_X6_open cut_X6_open K (n + 1) 49 L st S = (O_iload 3 1) (nx cod_X6_open cut_X6_open K n) 49 L st S) ∧
  (∀ (K : Kt FT) (n : Nat) (L : xL) (st : List Value) (S : FT), nx cod_X6_open cut_X6_open K (n + 1) 50 L st S = (O_icmp_ne 56) (nx cod_X6_open cut_X6_open K n) 50 L st S) ∧
  (∀ (K : Kt FT) (n : Nat) (L : xL) (st : List Value) (S : FT), nx cod_X6_open cut_X6_open K (n + 1) 53 L st S = (O_int (-1000002) 2) (nx cod_X6_open cut_X6_open K n) 53 L st S) ∧
  (∀ (K : Kt FT) (n : Nat) (L : xL) (st : List Value) (S : FT), nx cod_X6_open cut_X6_open K (n + 1) 55 L st S = (O_iret) (nx cod_X6_open cut_X6_open K n) 55 L st S) ∧
  (∀ (K : Kt FT) (n : Nat) (L : xL) (st : List Value) (S : FT), nx cod_X6_open cut_X6_open K (n + 1) 56 L st S = (O_aload 0 1) (nx cod_X6_open cut_X6_open K n) 56 L st S) ∧
  (∀ (K : Kt FT) (n : Nat) (L : xL) (st : List Value) (S : FT), nx cod_X6_open cut_X6_open K (n + 1) 57 L st S = (O_callV 0 0 (fun S => S) (fun _ S' => S') sp_X6_remember) (nx cod_X6_open cut_X6_open K n) 57 L st S) ∧
  (∀ (K : Kt FT) (n : Nat) (L : xL) (st : List Value) (S : FT), nx cod_X6_open cut_X6_open K (n + 1) 60 L st S = (O_aload 0 1) (nx cod_X6_open cut_X6_open K n) 60 L st S) ∧
  (∀ (K : Kt FT) (n : Nat) (L : xL) (st : List Value) (S : FT), nx cod_X6_open cut_X6_open K (n + 1) 61 L st S = (O_getf fpW 6 0) (nx cod_X6_open cut_X6_open K n) 61 L st S) ∧
  (∀ (K : Kt FT) (n : Nat) (L : xL) (st : List Value) (S : FT), nx cod_X6_open cut_X6_open K (n + 1) 64 L st S = (O_getf fpW 4 2) (nx cod_X6_open cut_X6_open K n) 64 L st S) ∧
  (∀ (K : Kt FT) (n : Nat) (L : xL) (st : List Value) (S : FT), nx cod_X6_open cut_X6_open K (n + 1) 67 L st S = (O_getf fpW 5 1) (nx cod_X6_open cut_X6_open K n) 67 L st S) ∧
  (∀ (K : Kt FT) (n : Nat) (L : xL) (st : List Value) (S : FT), nx cod_X6_open cut_X6_open K (n + 1) 70 L st S = (O_iload 1 1) (nx cod_X6_open cut_X6_open K n) 70 L st S) ∧
  (∀ (K : Kt FT) (n : Nat) (L : xL) (st : List Value) (S : FT), nx cod_X6_open cut_X6_open K (n + 1) 71 L st S = (O_iload 3 1) (nx cod_X6_open cut_X6_open K n) 71 L st S) ∧
  (∀ (K : Kt FT) (n : Nat) (L : xL) (st : List Value) (S : FT), nx cod_X6_open cut_X6_open K (n + 1) 72 L st S = (O_ast fpW 1 fpW_sa) (nx cod_X6_open cut_X6_open K n) 72 L st S) ∧
  (∀ (K : Kt FT) (n : Nat) (L : xL) (st : List Value) (S : FT), nx cod_X6_open cut_X6_open K (n + 1) 73 L st S = (O_aload 0 1) (nx cod_X6_open cut_X6_open K n) 73 L st S) ∧
  (∀ (K : Kt FT) (n : Nat) (L : xL) (st : List Value) (S : FT), nx cod_X6_open cut_X6_open K (n + 1) 74 L st S = (O_getf fpW 6 0) (nx cod_X6_open cut_X6_open K n) 74 L st S) ∧
  (∀ (K : Kt FT) (n : Nat) (L : xL) (st : List Value) (S : FT), nx cod_X6_open cut_X6_open K (n + 1) 77 L st S = (O_getf fpW 4 2) (nx cod_X6_open cut_X6_open K n) 77 L st S) ∧
  (∀ (K : Kt FT) (n : Nat) (L : xL) (st : List Value) (S : FT), nx cod_X6_open cut_X6_open K (n + 1) 80 L st S = (O_callV 0 12 (fun S : FT => S.now.Z) (fun S u => S.sNow (S.now.sZ u)) sp_X5_openOnes) (nx cod_X6_open cut_X6_open K n) 80 L st S) ∧
  (∀ (K : Kt FT) (n : Nat) (L : xL) (st : List Value) (S : FT), nx cod_X6_open cut_X6_open K (n + 1) 83 L st S = (O_iret) (nx cod_X6_open cut_X6_open K n) 83 L st S) ∧
  (∀ (K : Kt FT) (n : Nat) (L : xL) (st : List Value) (S : FT), nx cod_X6_open cut_X6_open K (n + 1) 100000 L st S = K 100000 L st S) := by
  repeat' apply And.intro
  all_goals (intros; rfl)
set_option maxRecDepth 100000 in
theorem mk_X6_open {P P' : FT} {r : Option Value} {p0 : Int32} {p1 : Int32} (body : ∀ E : En, CodOk E fpW cod_X6_open → Gd E fpW 100000 [] r.toList P' → Gd E fpW 0 [some (.ref 0), some (.int p0), some (.int p1), none] [] P) : Con yX6_open cX6_open 4 (some .int) 4 fpW [.ref 0, .int p0, .int p1] P r P' :=
  Con.of (by decide) rfl rfl (Nat.le_of_ble_eq_true rfl) (fun E F G hr => body E (okc_X6_open F G) hr)
set_option maxRecDepth 10000 in
theorem con_X6_open (S : FT) (z : Int32) (is : Int32) (hp : S.good) : Con yX6_open cX6_open 4 (some .int) 4 fpW [.ref 0, .int z, .int is] S (some (.int (if S.okOpen z is = false then -1000001 else if S.now.Z.isOpen z.toNatClampNeg = bI (decide (is = 1)) then -1000002 else (S.now.Z.sIsOpen (upd S.now.Z.isOpen z.toNatClampNeg (bI (decide (is = 1))))).openOnes))) (if S.okOpen z is = true ∧ ¬ S.now.Z.isOpen z.toNatClampNeg = bI (decide (is = 1)) then S.remember.sNow (S.now.sZ (S.now.Z.sIsOpen (upd S.now.Z.isOpen z.toNatClampNeg (bI (decide (is = 1)))))) else S) := by
  refine mk_X6_open (fun E C hr => ?_)
  have h1 := hp.1
  have h2 := hp.2.1.2
  have h3 := hp.2.1.1.2.1
  have hv := ZT.has_in (p := z) h3
  clear hp
  (refine nx_ok C (cuts := cut_X6_open) 1000 _ _ _ _ ?_; simp only [w_X6_open, ops_eq, xst_eq, call_eq, oK_eq, Option.toList_some, Option.toList_none, List.cons_append, List.nil_append, List.length_cons, List.length_nil, true_and, and_true, Nat.reduceAdd, fpW_F, fpW_A, fpW_S, fpW_P, FT_id, ST_id, FT_gs, ST_gs, PT_gs, ZT_gs, NT_gs, ET_gs, OT_gs, se_X5_has, se_X6_within, se_X6_remember, se_X5_openOnes, bI_eq, rmb_eq, h1, h2, h3, ZT_ok, show xnar 1 1 = 1 from rfl, show xnar 1 0 = 0 from rfl])
  ((repeat' (with_reducible first | apply And.intro | intro _)) <;> simp_all [FT.okOpen, bI, FT_id, ST_id, FT_gs, ST_gs, PT_gs, ZT_gs, NT_gs, ET_gs, OT_gs])
def sp_X6_open : Sp FT := fun av S K => match av with
  | [.ref 0, .int z, .int is] => (S.good) ∧ K (some (.int (if S.okOpen z is = false then -1000001 else if S.now.Z.isOpen z.toNatClampNeg = bI (decide (is = 1)) then -1000002 else (S.now.Z.sIsOpen (upd S.now.Z.isOpen z.toNatClampNeg (bI (decide (is = 1))))).openOnes))) (if S.okOpen z is = true ∧ ¬ S.now.Z.isOpen z.toNatClampNeg = bI (decide (is = 1)) then S.remember.sNow (S.now.sZ (S.now.Z.sIsOpen (upd S.now.Z.isOpen z.toNatClampNeg (bI (decide (is = 1)))))) else S)
  | _ => False
theorem se_X6_open (z : Int32) (is : Int32) (S : FT) (K : Option Value → FT → Prop) : sp_X6_open [.ref 0, .int z, .int is] S K = ((S.good) ∧ K (some (.int (if S.okOpen z is = false then -1000001 else if S.now.Z.isOpen z.toNatClampNeg = bI (decide (is = 1)) then -1000002 else (S.now.Z.sIsOpen (upd S.now.Z.isOpen z.toNatClampNeg (bI (decide (is = 1))))).openOnes))) (if S.okOpen z is = true ∧ ¬ S.now.Z.isOpen z.toNatClampNeg = bI (decide (is = 1)) then S.remember.sNow (S.now.sZ (S.now.Z.sIsOpen (upd S.now.Z.isOpen z.toNatClampNeg (bI (decide (is = 1)))))) else S)) := rfl
theorem spok_X6_open : SpOk yX6_open cX6_open 4 (some .int) 4 fpW sp_X6_open := by
  intro av S K h
  unfold sp_X6_open at h
  split at h
  · rename_i z is; exact ⟨some (.int (if S.okOpen z is = false then -1000001 else if S.now.Z.isOpen z.toNatClampNeg = bI (decide (is = 1)) then -1000002 else (S.now.Z.sIsOpen (upd S.now.Z.isOpen z.toNatClampNeg (bI (decide (is = 1))))).openOnes)), if S.okOpen z is = true ∧ ¬ S.now.Z.isOpen z.toNatClampNeg = bI (decide (is = 1)) then S.remember.sNow (S.now.sZ (S.now.Z.sIsOpen (upd S.now.Z.isOpen z.toNatClampNeg (bI (decide (is = 1)))))) else S, trivial, con_X6_open S z is h.1, h.2⟩
  · exact h.elim
theorem flX6_131 : fldOk RX6 131 4 8 = true := by decide +kernel
def cod_X6_leak : List (Nat × Op FT) := [(0, O_iload 1 1), (1, O_int 0 1), (2, O_int 1000 3), (5, O_callS 3 sp_X6_within), (8, O_if_ne 14), (11, O_int (-1000001) 2), (13, O_iret), (14, O_aload 0 1), (15, O_callV 0 0 (fun S => S) (fun _ S' => S') sp_X6_remember), (18, O_aload 0 1), (19, O_getf fpW 6 0), (22, O_getf fpW 4 8), (25, O_istore 2 1), (26, O_aload 0 1), (27, O_getf fpW 6 0), (30, O_iload 1 1), (31, O_puti fpW_p4_8), (34, O_iload 2 1), (35, O_iret)]
abbrev cut_X6_leak : List Nat := []
set_option maxRecDepth 100000 in
theorem okc_X6_leak {E : En} (F : Fx E RX6 cX6_leak 3 4) (G : Fr E (some .int)) : CodOk E fpW cod_X6_leak := by
  unfold CodOk cod_X6_leak
  refine List.forall_mem_cons.mpr ⟨ok_iload_n F dX6_leak_0 rfl (by decide), ?_⟩
  refine List.forall_mem_cons.mpr ⟨ok_iconst F dX6_leak_1 (by decide) (by decide), ?_⟩
  refine List.forall_mem_cons.mpr ⟨ok_sipush F dX6_leak_2 (by decide) (by decide), ?_⟩
  refine List.forall_mem_cons.mpr ⟨ok_callS F spok_X6_within (by decide +kernel) rfl (by decide) dX6_leak_5 (by decide), ?_⟩
  refine List.forall_mem_cons.mpr ⟨ok_if_ne F dX6_leak_8 (by decide) (by decide) (by decide), ?_⟩
  refine List.forall_mem_cons.mpr ⟨ok_ldc F (ix := 41) (wsHas_mem (l := [Jvm.Cond.constant RX6 41 (-1000001)]) (by decide +kernel) (by simp)) dX6_leak_11 (by decide), ?_⟩
  refine List.forall_mem_cons.mpr ⟨ok_iret F G dX6_leak_13 (by decide), ?_⟩
  refine List.forall_mem_cons.mpr ⟨ok_aload_n F dX6_leak_14 rfl (by decide), ?_⟩
  refine List.forall_mem_cons.mpr ⟨ok_callV F spok_X6_remember (ln_id fpW) rcv_fpW (by decide +kernel) (by decide) dX6_leak_15 (by decide), ?_⟩
  refine List.forall_mem_cons.mpr ⟨ok_aload_n F dX6_leak_18 rfl (by decide), ?_⟩
  refine List.forall_mem_cons.mpr ⟨ok_getf F flX6_10 dX6_leak_19 (by decide), ?_⟩
  refine List.forall_mem_cons.mpr ⟨ok_getf F flX6_131 dX6_leak_22 (by decide), ?_⟩
  refine List.forall_mem_cons.mpr ⟨ok_istore_n F dX6_leak_25 rfl (by decide) (by decide), ?_⟩
  refine List.forall_mem_cons.mpr ⟨ok_aload_n F dX6_leak_26 rfl (by decide), ?_⟩
  refine List.forall_mem_cons.mpr ⟨ok_getf F flX6_10 dX6_leak_27 (by decide), ?_⟩
  refine List.forall_mem_cons.mpr ⟨ok_iload_n F dX6_leak_30 rfl (by decide), ?_⟩
  refine List.forall_mem_cons.mpr ⟨ok_puti F fpW_p4_8_ok (fun _ _ _ h => by cases h; rfl) rfl flX6_131 dX6_leak_31 (by decide), ?_⟩
  refine List.forall_mem_cons.mpr ⟨ok_iload_n F dX6_leak_34 rfl (by decide), ?_⟩
  refine List.forall_mem_cons.mpr ⟨ok_iret F G dX6_leak_35 (by decide), ?_⟩
  exact fun _ h => absurd h List.not_mem_nil
set_option maxRecDepth 100000 in
theorem w_X6_leak : (∀ (K : Kt FT) (n : Nat) (L : xL) (st : List Value) (S : FT), nx cod_X6_leak cut_X6_leak K (n + 1) 0 L st S = (O_iload 1 1) (nx cod_X6_leak cut_X6_leak K n) 0 L st S) ∧
  (∀ (K : Kt FT) (n : Nat) (L : xL) (st : List Value) (S : FT), nx cod_X6_leak cut_X6_leak K (n + 1) 1 L st S = (O_int 0 1) (nx cod_X6_leak cut_X6_leak K n) 1 L st S) ∧
  (∀ (K : Kt FT) (n : Nat) (L : xL) (st : List Value) (S : FT), nx cod_X6_leak cut_X6_leak K (n + 1) 2 L st S = (O_int 1000 3) (nx cod_X6_leak cut_X6_leak K n) 2 L st S) ∧
  (∀ (K : Kt FT) (n : Nat) (L : xL) (st : List Value) (S : FT), nx cod_X6_leak cut_X6_leak K (n + 1) 5 L st S = (O_callS 3 sp_X6_within) (nx cod_X6_leak cut_X6_leak K n) 5 L st S) ∧
  (∀ (K : Kt FT) (n : Nat) (L : xL) (st : List Value) (S : FT), nx cod_X6_leak cut_X6_leak K (n + 1) 8 L st S = (O_if_ne 14) (nx cod_X6_leak cut_X6_leak K n) 8 L st S) ∧
  (∀ (K : Kt FT) (n : Nat) (L : xL) (st : List Value) (S : FT), nx cod_X6_leak cut_X6_leak K (n + 1) 11 L st S = (O_int (-1000001) 2) (nx cod_X6_leak cut_X6_leak K n) 11 L st S) ∧
  (∀ (K : Kt FT) (n : Nat) (L : xL) (st : List Value) (S : FT), nx cod_X6_leak cut_X6_leak K (n + 1) 13 L st S = (O_iret) (nx cod_X6_leak cut_X6_leak K n) 13 L st S) ∧
  (∀ (K : Kt FT) (n : Nat) (L : xL) (st : List Value) (S : FT), nx cod_X6_leak cut_X6_leak K (n + 1) 14 L st S = (O_aload 0 1) (nx cod_X6_leak cut_X6_leak K n) 14 L st S) ∧
  (∀ (K : Kt FT) (n : Nat) (L : xL) (st : List Value) (S : FT), nx cod_X6_leak cut_X6_leak K (n + 1) 15 L st S = (O_callV 0 0 (fun S => S) (fun _ S' => S') sp_X6_remember) (nx cod_X6_leak cut_X6_leak K n) 15 L st S) ∧
  (∀ (K : Kt FT) (n : Nat) (L : xL) (st : List Value) (S : FT), nx cod_X6_leak cut_X6_leak K (n + 1) 18 L st S = (O_aload 0 1) (nx cod_X6_leak cut_X6_leak K n) 18 L st S) ∧
  (∀ (K : Kt FT) (n : Nat) (L : xL) (st : List Value) (S : FT), nx cod_X6_leak cut_X6_leak K (n + 1) 19 L st S = (O_getf fpW 6 0) (nx cod_X6_leak cut_X6_leak K n) 19 L st S) ∧
  (∀ (K : Kt FT) (n : Nat) (L : xL) (st : List Value) (S : FT), nx cod_X6_leak cut_X6_leak K (n + 1) 22 L st S = (O_getf fpW 4 8) (nx cod_X6_leak cut_X6_leak K n) 22 L st S) ∧
  (∀ (K : Kt FT) (n : Nat) (L : xL) (st : List Value) (S : FT), nx cod_X6_leak cut_X6_leak K (n + 1) 25 L st S = (O_istore 2 1) (nx cod_X6_leak cut_X6_leak K n) 25 L st S) ∧
  (∀ (K : Kt FT) (n : Nat) (L : xL) (st : List Value) (S : FT), nx cod_X6_leak cut_X6_leak K (n + 1) 26 L st S = (O_aload 0 1) (nx cod_X6_leak cut_X6_leak K n) 26 L st S) ∧
  (∀ (K : Kt FT) (n : Nat) (L : xL) (st : List Value) (S : FT), nx cod_X6_leak cut_X6_leak K (n + 1) 27 L st S = (O_getf fpW 6 0) (nx cod_X6_leak cut_X6_leak K n) 27 L st S) ∧
  (∀ (K : Kt FT) (n : Nat) (L : xL) (st : List Value) (S : FT), nx cod_X6_leak cut_X6_leak K (n + 1) 30 L st S = (O_iload 1 1) (nx cod_X6_leak cut_X6_leak K n) 30 L st S) ∧
  (∀ (K : Kt FT) (n : Nat) (L : xL) (st : List Value) (S : FT), nx cod_X6_leak cut_X6_leak K (n + 1) 31 L st S = (O_puti fpW_p4_8) (nx cod_X6_leak cut_X6_leak K n) 31 L st S) ∧
  (∀ (K : Kt FT) (n : Nat) (L : xL) (st : List Value) (S : FT), nx cod_X6_leak cut_X6_leak K (n + 1) 34 L st S = (O_iload 2 1) (nx cod_X6_leak cut_X6_leak K n) 34 L st S) ∧
  (∀ (K : Kt FT) (n : Nat) (L : xL) (st : List Value) (S : FT), nx cod_X6_leak cut_X6_leak K (n + 1) 35 L st S = (O_iret) (nx cod_X6_leak cut_X6_leak K n) 35 L st S) ∧
  (∀ (K : Kt FT) (n : Nat) (L : xL) (st : List Value) (S : FT), nx cod_X6_leak cut_X6_leak K (n + 1) 100000 L st S = K 100000 L st S) := by
  repeat' apply And.intro
  all_goals (intros; rfl)
set_option maxRecDepth 100000 in
theorem mk_X6_leak {P P' : FT} {r : Option Value} {p0 : Int32} (body : ∀ E : En, CodOk E fpW cod_X6_leak → Gd E fpW 100000 [] r.toList P' → Gd E fpW 0 [some (.ref 0), some (.int p0), none] [] P) : Con yX6_leak cX6_leak 3 (some .int) 4 fpW [.ref 0, .int p0] P r P' :=
  Con.of (by decide) rfl rfl (Nat.le_of_ble_eq_true rfl) (fun E F G hr => body E (okc_X6_leak F G) hr)
set_option maxRecDepth 10000 in
theorem con_X6_leak (S : FT) (v : Int32) (hp : S.good) : Con yX6_leak cX6_leak 3 (some .int) 4 fpW [.ref 0, .int v] S (some (.int (if inR v 0 1000 = false then -1000001 else S.now.leak))) (if inR v 0 1000 = true then S.remember.sNow (S.now.sLeak v) else S) := by
  refine mk_X6_leak (fun E C hr => ?_)
  have h1 := hp.1
  have h2 := hp.2.1.2
  clear hp
  (refine nx_ok C (cuts := cut_X6_leak) 1000 _ _ _ _ ?_; simp only [w_X6_leak, ops_eq, xst_eq, call_eq, oK_eq, Option.toList_some, Option.toList_none, List.cons_append, List.nil_append, List.length_cons, List.length_nil, true_and, and_true, Nat.reduceAdd, fpW_F, fpW_A, fpW_S, fpW_P, FT_id, ST_id, FT_gs, ST_gs, PT_gs, ZT_gs, NT_gs, ET_gs, OT_gs, se_X6_within, se_X6_remember, bI_eq, rmb_eq, h1, h2])
  ((repeat' (with_reducible first | apply And.intro | intro _)) <;> simp_all [FT_id, ST_id, FT_gs, ST_gs, PT_gs, ZT_gs, NT_gs, ET_gs, OT_gs])
def sp_X6_leak : Sp FT := fun av S K => match av with
  | [.ref 0, .int v] => (S.good) ∧ K (some (.int (if inR v 0 1000 = false then -1000001 else S.now.leak))) (if inR v 0 1000 = true then S.remember.sNow (S.now.sLeak v) else S)
  | _ => False
theorem se_X6_leak (v : Int32) (S : FT) (K : Option Value → FT → Prop) : sp_X6_leak [.ref 0, .int v] S K = ((S.good) ∧ K (some (.int (if inR v 0 1000 = false then -1000001 else S.now.leak))) (if inR v 0 1000 = true then S.remember.sNow (S.now.sLeak v) else S)) := rfl
theorem spok_X6_leak : SpOk yX6_leak cX6_leak 3 (some .int) 4 fpW sp_X6_leak := by
  intro av S K h
  unfold sp_X6_leak at h
  split at h
  · rename_i v; exact ⟨some (.int (if inR v 0 1000 = false then -1000001 else S.now.leak)), if inR v 0 1000 = true then S.remember.sNow (S.now.sLeak v) else S, trivial, con_X6_leak S v h.1, h.2⟩
  · exact h.elim
def FT.okProg (S : FT) (z f t : Int32) : Bool := S.now.Z.has z && inR f 0 1439 && inR t 0 1439 && decide (¬ f = t)
theorem flX6_134 : fldOk RX6 134 5 6 = true := by decide +kernel
def cod_X6_programme : List (Nat × Op FT) := [(0, O_aload 0 1), (1, O_getf fpW 6 0), (4, O_getf fpW 4 2), (7, O_iload 1 1), (8, O_callV 1 12 (fun S : FT => S.now.Z) (fun S u => S.sNow (S.now.sZ u)) sp_X5_has), (11, O_if_eq 41), (14, O_iload 2 1), (15, O_int 0 1), (16, O_int 1439 3), (19, O_callS 3 sp_X6_within), (22, O_if_eq 41), (25, O_iload 3 1), (26, O_int 0 1), (27, O_int 1439 3), (30, O_callS 3 sp_X6_within), (33, O_if_eq 41), (36, O_iload 2 1), (37, O_iload 3 1), (38, O_icmp_ne 44), (41, O_int (-1000001) 2), (43, O_iret), (44, O_aload 0 1), (45, O_getf fpW 6 0), (48, O_getf fpW 4 2), (51, O_getf fpW 5 6), (54, O_int 8 2), (56, O_icmp_lt 62), (59, O_int (-1000003) 2), (61, O_iret), (62, O_aload 0 1), (63, O_callV 0 0 (fun S => S) (fun _ S' => S') sp_X6_remember), (66, O_aload 0 1), (67, O_getf fpW 6 0), (70, O_getf fpW 4 2), (73, O_iload 1 1), (74, O_iload 2 1), (75, O_iload 3 1), (76, O_callV 3 12 (fun S : FT => S.now.Z) (fun S u => S.sNow (S.now.sZ u)) sp_X5_addProgramme), (79, O_iret)]
abbrev cut_X6_programme : List Nat := []
set_option maxRecDepth 100000 in
theorem okc_X6_programme {E : En} (F : Fx E RX6 cX6_programme 4 4) (G : Fr E (some .int)) : CodOk E fpW cod_X6_programme := by
  unfold CodOk cod_X6_programme
  refine List.forall_mem_cons.mpr ⟨ok_aload_n F dX6_programme_0 rfl (by decide), ?_⟩
  refine List.forall_mem_cons.mpr ⟨ok_getf F flX6_10 dX6_programme_1 (by decide), ?_⟩
  refine List.forall_mem_cons.mpr ⟨ok_getf F flX6_115 dX6_programme_4 (by decide), ?_⟩
  refine List.forall_mem_cons.mpr ⟨ok_iload_n F dX6_programme_7 rfl (by decide), ?_⟩
  refine List.forall_mem_cons.mpr ⟨ok_callV F spok_X5_has ln_fp_now_Z rcv_zW (by decide +kernel) (by decide) dX6_programme_8 (by decide), ?_⟩
  refine List.forall_mem_cons.mpr ⟨ok_if_eq F dX6_programme_11 (by decide) (by decide) (by decide), ?_⟩
  refine List.forall_mem_cons.mpr ⟨ok_iload_n F dX6_programme_14 rfl (by decide), ?_⟩
  refine List.forall_mem_cons.mpr ⟨ok_iconst F dX6_programme_15 (by decide) (by decide), ?_⟩
  refine List.forall_mem_cons.mpr ⟨ok_sipush F dX6_programme_16 (by decide) (by decide), ?_⟩
  refine List.forall_mem_cons.mpr ⟨ok_callS F spok_X6_within (by decide +kernel) rfl (by decide) dX6_programme_19 (by decide), ?_⟩
  refine List.forall_mem_cons.mpr ⟨ok_if_eq F dX6_programme_22 (by decide) (by decide) (by decide), ?_⟩
  refine List.forall_mem_cons.mpr ⟨ok_iload_n F dX6_programme_25 rfl (by decide), ?_⟩
  refine List.forall_mem_cons.mpr ⟨ok_iconst F dX6_programme_26 (by decide) (by decide), ?_⟩
  refine List.forall_mem_cons.mpr ⟨ok_sipush F dX6_programme_27 (by decide) (by decide), ?_⟩
  refine List.forall_mem_cons.mpr ⟨ok_callS F spok_X6_within (by decide +kernel) rfl (by decide) dX6_programme_30 (by decide), ?_⟩
  refine List.forall_mem_cons.mpr ⟨ok_if_eq F dX6_programme_33 (by decide) (by decide) (by decide), ?_⟩
  refine List.forall_mem_cons.mpr ⟨ok_iload_n F dX6_programme_36 rfl (by decide), ?_⟩
  refine List.forall_mem_cons.mpr ⟨ok_iload_n F dX6_programme_37 rfl (by decide), ?_⟩
  refine List.forall_mem_cons.mpr ⟨ok_icmp_ne F dX6_programme_38 (by decide) (by decide) (by decide), ?_⟩
  refine List.forall_mem_cons.mpr ⟨ok_ldc F (ix := 41) (wsHas_mem (l := [Jvm.Cond.constant RX6 41 (-1000001)]) (by decide +kernel) (by simp)) dX6_programme_41 (by decide), ?_⟩
  refine List.forall_mem_cons.mpr ⟨ok_iret F G dX6_programme_43 (by decide), ?_⟩
  refine List.forall_mem_cons.mpr ⟨ok_aload_n F dX6_programme_44 rfl (by decide), ?_⟩
  refine List.forall_mem_cons.mpr ⟨ok_getf F flX6_10 dX6_programme_45 (by decide), ?_⟩
  refine List.forall_mem_cons.mpr ⟨ok_getf F flX6_115 dX6_programme_48 (by decide), ?_⟩
  refine List.forall_mem_cons.mpr ⟨ok_getf F flX6_134 dX6_programme_51 (by decide), ?_⟩
  refine List.forall_mem_cons.mpr ⟨ok_bipush F dX6_programme_54 (by decide) (by decide), ?_⟩
  refine List.forall_mem_cons.mpr ⟨ok_icmp_lt F dX6_programme_56 (by decide) (by decide) (by decide), ?_⟩
  refine List.forall_mem_cons.mpr ⟨ok_ldc F (ix := 58) (wsHas_mem (l := [Jvm.Cond.constant RX6 58 (-1000003)]) (by decide +kernel) (by simp)) dX6_programme_59 (by decide), ?_⟩
  refine List.forall_mem_cons.mpr ⟨ok_iret F G dX6_programme_61 (by decide), ?_⟩
  refine List.forall_mem_cons.mpr ⟨ok_aload_n F dX6_programme_62 rfl (by decide), ?_⟩
  refine List.forall_mem_cons.mpr ⟨ok_callV F spok_X6_remember (ln_id fpW) rcv_fpW (by decide +kernel) (by decide) dX6_programme_63 (by decide), ?_⟩
  refine List.forall_mem_cons.mpr ⟨ok_aload_n F dX6_programme_66 rfl (by decide), ?_⟩
  refine List.forall_mem_cons.mpr ⟨ok_getf F flX6_10 dX6_programme_67 (by decide), ?_⟩
  refine List.forall_mem_cons.mpr ⟨ok_getf F flX6_115 dX6_programme_70 (by decide), ?_⟩
  refine List.forall_mem_cons.mpr ⟨ok_iload_n F dX6_programme_73 rfl (by decide), ?_⟩
  refine List.forall_mem_cons.mpr ⟨ok_iload_n F dX6_programme_74 rfl (by decide), ?_⟩
  refine List.forall_mem_cons.mpr ⟨ok_iload_n F dX6_programme_75 rfl (by decide), ?_⟩
  refine List.forall_mem_cons.mpr ⟨ok_callV F spok_X5_addProgramme ln_fp_now_Z rcv_zW (by decide +kernel) (by decide) dX6_programme_76 (by decide), ?_⟩
  refine List.forall_mem_cons.mpr ⟨ok_iret F G dX6_programme_79 (by decide), ?_⟩
  exact fun _ h => absurd h List.not_mem_nil
set_option maxRecDepth 100000 in
theorem w_X6_programme : (∀ (K : Kt FT) (n : Nat) (L : xL) (st : List Value) (S : FT), nx cod_X6_programme cut_X6_programme K (n + 1) 0 L st S = (O_aload 0 1) (nx cod_X6_programme cut_X6_programme K n) 0 L st S) ∧
  (∀ (K : Kt FT) (n : Nat) (L : xL) (st : List Value) (S : FT), nx cod_X6_programme cut_X6_programme K (n + 1) 1 L st S = (O_getf fpW 6 0) (nx cod_X6_programme cut_X6_programme K n) 1 L st S) ∧
  (∀ (K : Kt FT) (n : Nat) (L : xL) (st : List Value) (S : FT), nx cod_X6_programme cut_X6_programme K (n + 1) 4 L st S = (O_getf fpW 4 2) (nx cod_X6_programme cut_X6_programme K n) 4 L st S) ∧
  (∀ (K : Kt FT) (n : Nat) (L : xL) (st : List Value) (S : FT), nx cod_X6_programme cut_X6_programme K (n + 1) 7 L st S = (O_iload 1 1) (nx cod_X6_programme cut_X6_programme K n) 7 L st S) ∧
  (∀ (K : Kt FT) (n : Nat) (L : xL) (st : List Value) (S : FT), nx cod_X6_programme cut_X6_programme K (n + 1) 8 L st S = (O_callV 1 12 (fun S : FT => S.now.Z) (fun S u => S.sNow (S.now.sZ u)) sp_X5_has) (nx cod_X6_programme cut_X6_programme K n) 8 L st S) ∧
  (∀ (K : Kt FT) (n : Nat) (L : xL) (st : List Value) (S : FT), nx cod_X6_programme cut_X6_programme K (n + 1) 11 L st S = (O_if_eq 41) (nx cod_X6_programme cut_X6_programme K n) 11 L st S) ∧
  (∀ (K : Kt FT) (n : Nat) (L : xL) (st : List Value) (S : FT), nx cod_X6_programme cut_X6_programme K (n + 1) 14 L st S = (O_iload 2 1) (nx cod_X6_programme cut_X6_programme K n) 14 L st S) ∧
  (∀ (K : Kt FT) (n : Nat) (L : xL) (st : List Value) (S : FT), nx cod_X6_programme cut_X6_programme K (n + 1) 15 L st S = (O_int 0 1) (nx cod_X6_programme cut_X6_programme K n) 15 L st S) ∧
  (∀ (K : Kt FT) (n : Nat) (L : xL) (st : List Value) (S : FT), nx cod_X6_programme cut_X6_programme K (n + 1) 16 L st S = (O_int 1439 3) (nx cod_X6_programme cut_X6_programme K n) 16 L st S) ∧
  (∀ (K : Kt FT) (n : Nat) (L : xL) (st : List Value) (S : FT), nx cod_X6_programme cut_X6_programme K (n + 1) 19 L st S = (O_callS 3 sp_X6_within) (nx cod_X6_programme cut_X6_programme K n) 19 L st S) ∧
  (∀ (K : Kt FT) (n : Nat) (L : xL) (st : List Value) (S : FT), nx cod_X6_programme cut_X6_programme K (n + 1) 22 L st S = (O_if_eq 41) (nx cod_X6_programme cut_X6_programme K n) 22 L st S) ∧
  (∀ (K : Kt FT) (n : Nat) (L : xL) (st : List Value) (S : FT), nx cod_X6_programme cut_X6_programme K (n + 1) 25 L st S = (O_iload 3 1) (nx cod_X6_programme cut_X6_programme K n) 25 L st S) ∧
  (∀ (K : Kt FT) (n : Nat) (L : xL) (st : List Value) (S : FT), nx cod_X6_programme cut_X6_programme K (n + 1) 26 L st S = (O_int 0 1) (nx cod_X6_programme cut_X6_programme K n) 26 L st S) ∧
  (∀ (K : Kt FT) (n : Nat) (L : xL) (st : List Value) (S : FT), nx cod_X6_programme cut_X6_programme K (n + 1) 27 L st S = (O_int 1439 3) (nx cod_X6_programme cut_X6_programme K n) 27 L st S) ∧
  (∀ (K : Kt FT) (n : Nat) (L : xL) (st : List Value) (S : FT), nx cod_X6_programme cut_X6_programme K (n + 1) 30 L st S = (O_callS 3 sp_X6_within) (nx cod_X6_programme cut_X6_programme K n) 30 L st S) ∧
  (∀ (K : Kt FT) (n : Nat) (L : xL) (st : List Value) (S : FT), nx cod_X6_programme cut_X6_programme K (n + 1) 33 L st S = (O_if_eq 41) (nx cod_X6_programme cut_X6_programme K n) 33 L st S) ∧
  (∀ (K : Kt FT) (n : Nat) (L : xL) (st : List Value) (S : FT), nx cod_X6_programme cut_X6_programme K (n + 1) 36 L st S = (O_iload 2 1) (nx cod_X6_programme cut_X6_programme K n) 36 L st S) ∧
  (∀ (K : Kt FT) (n : Nat) (L : xL) (st : List Value) (S : FT), nx cod_X6_programme cut_X6_programme K (n + 1) 37 L st S = (O_iload 3 1) (nx cod_X6_programme cut_X6_programme K n) 37 L st S) ∧
  (∀ (K : Kt FT) (n : Nat) (L : xL) (st : List Value) (S : FT), nx cod_X6_programme cut_X6_programme K (n + 1) 38 L st S = (O_icmp_ne 44) (nx cod_X6_programme cut_X6_programme K n) 38 L st S) ∧
  (∀ (K : Kt FT) (n : Nat) (L : xL) (st : List Value) (S : FT), nx cod_X6_programme cut_X6_programme K (n + 1) 41 L st S = (O_int (-1000001) 2) (nx cod_X6_programme cut_X6_programme K n) 41 L st S) ∧
  (∀ (K : Kt FT) (n : Nat) (L : xL) (st : List Value) (S : FT), nx cod_X6_programme cut_X6_programme K (n + 1) 43 L st S = (O_iret) (nx cod_X6_programme cut_X6_programme K n) 43 L st S) ∧
  (∀ (K : Kt FT) (n : Nat) (L : xL) (st : List Value) (S : FT), nx cod_X6_programme cut_X6_programme K (n + 1) 44 L st S = (O_aload 0 1) (nx cod_X6_programme cut_X6_programme K n) 44 L st S) ∧
  (∀ (K : Kt FT) (n : Nat) (L : xL) (st : List Value) (S : FT), nx cod_X6_programme cut_X6_programme K (n + 1) 45 L st S = (O_getf fpW 6 0) (nx cod_X6_programme cut_X6_programme K n) 45 L st S) ∧
  (∀ (K : Kt FT) (n : Nat) (L : xL) (st : List Value) (S : FT), nx cod_X6_programme cut_X6_programme K (n + 1) 48 L st S = (O_getf fpW 4 2) (nx cod_X6_programme cut_X6_programme K n) 48 L st S) ∧
  (∀ (K : Kt FT) (n : Nat) (L : xL) (st : List Value) (S : FT), nx cod_X6_programme cut_X6_programme K (n + 1) 51 L st S = (O_getf fpW 5 6) (nx cod_X6_programme cut_X6_programme K n) 51 L st S) ∧
  (∀ (K : Kt FT) (n : Nat) (L : xL) (st : List Value) (S : FT), nx cod_X6_programme cut_X6_programme K (n + 1) 54 L st S = (O_int 8 2) (nx cod_X6_programme cut_X6_programme K n) 54 L st S) ∧
  (∀ (K : Kt FT) (n : Nat) (L : xL) (st : List Value) (S : FT), nx cod_X6_programme cut_X6_programme K (n + 1) 56 L st S = (O_icmp_lt 62) (nx cod_X6_programme cut_X6_programme K n) 56 L st S) ∧
  (∀ (K : Kt FT) (n : Nat) (L : xL) (st : List Value) (S : FT), nx cod_X6_programme cut_X6_programme K (n + 1) 59 L st S = (O_int (-1000003) 2) (nx cod_X6_programme cut_X6_programme K n) 59 L st S) ∧
  (∀ (K : Kt FT) (n : Nat) (L : xL) (st : List Value) (S : FT), nx cod_X6_programme cut_X6_programme K (n + 1) 61 L st S = (O_iret) (nx cod_X6_programme cut_X6_programme K n) 61 L st S) ∧
  (∀ (K : Kt FT) (n : Nat) (L : xL) (st : List Value) (S : FT), nx cod_X6_programme cut_X6_programme K (n + 1) 62 L st S = (O_aload 0 1) (nx cod_X6_programme cut_X6_programme K n) 62 L st S) ∧
  (∀ (K : Kt FT) (n : Nat) (L : xL) (st : List Value) (S : FT), nx cod_X6_programme cut_X6_programme K (n + 1) 63 L st S = (O_callV 0 0 (fun S => S) (fun _ S' => S') sp_X6_remember) (nx cod_X6_programme cut_X6_programme K n) 63 L st S) ∧
  (∀ (K : Kt FT) (n : Nat) (L : xL) (st : List Value) (S : FT), nx cod_X6_programme cut_X6_programme K (n + 1) 66 L st S = (O_aload 0 1) (nx cod_X6_programme cut_X6_programme K n) 66 L st S) ∧
  (∀ (K : Kt FT) (n : Nat) (L : xL) (st : List Value) (S : FT), nx cod_X6_programme cut_X6_programme K (n + 1) 67 L st S = (O_getf fpW 6 0) (nx cod_X6_programme cut_X6_programme K n) 67 L st S) ∧
  (∀ (K : Kt FT) (n : Nat) (L : xL) (st : List Value) (S : FT), nx cod_X6_programme cut_X6_programme K (n + 1) 70 L st S = (O_getf fpW 4 2) (nx cod_X6_programme cut_X6_programme K n) 70 L st S) ∧
  (∀ (K : Kt FT) (n : Nat) (L : xL) (st : List Value) (S : FT), nx cod_X6_programme cut_X6_programme K (n + 1) 73 L st S = (O_iload 1 1) (nx cod_X6_programme cut_X6_programme K n) 73 L st S) ∧
  (∀ (K : Kt FT) (n : Nat) (L : xL) (st : List Value) (S : FT), nx cod_X6_programme cut_X6_programme K (n + 1) 74 L st S = (O_iload 2 1) (nx cod_X6_programme cut_X6_programme K n) 74 L st S) ∧
  (∀ (K : Kt FT) (n : Nat) (L : xL) (st : List Value) (S : FT), nx cod_X6_programme cut_X6_programme K (n + 1) 75 L st S = (O_iload 3 1) (nx cod_X6_programme cut_X6_programme K n) 75 L st S) ∧
  (∀ (K : Kt FT) (n : Nat) (L : xL) (st : List Value) (S : FT), nx cod_X6_programme cut_X6_programme K (n + 1) 76 L st S = (O_callV 3 12 (fun S : FT => S.now.Z) (fun S u => S.sNow (S.now.sZ u)) sp_X5_addProgramme) (nx cod_X6_programme cut_X6_programme K n) 76 L st S) ∧
  (∀ (K : Kt FT) (n : Nat) (L : xL) (st : List Value) (S : FT), nx cod_X6_programme cut_X6_programme K (n + 1) 79 L st S = (O_iret) (nx cod_X6_programme cut_X6_programme K n) 79 L st S) ∧
  (∀ (K : Kt FT) (n : Nat) (L : xL) (st : List Value) (S : FT), nx cod_X6_programme cut_X6_programme K (n + 1) 100000 L st S = K 100000 L st S) := by
  repeat' apply And.intro
  all_goals (intros; rfl)
set_option maxRecDepth 100000 in
theorem mk_X6_programme {P P' : FT} {r : Option Value} {p0 : Int32} {p1 : Int32} {p2 : Int32} (body : ∀ E : En, CodOk E fpW cod_X6_programme → Gd E fpW 100000 [] r.toList P' → Gd E fpW 0 [some (.ref 0), some (.int p0), some (.int p1), some (.int p2)] [] P) : Con yX6_programme cX6_programme 4 (some .int) 4 fpW [.ref 0, .int p0, .int p1, .int p2] P r P' :=
  Con.of (by decide) rfl rfl (Nat.le_of_ble_eq_true rfl) (fun E F G hr => body E (okc_X6_programme F G) hr)
set_option maxRecDepth 10000 in
theorem con_X6_programme (S : FT) (z : Int32) (f : Int32) (t : Int32) (hp : S.good) : Con yX6_programme cX6_programme 4 (some .int) 4 fpW [.ref 0, .int z, .int f, .int t] S (some (.int (if S.okProg z f t = false then -1000001 else if S.now.Z.programmes < 8 then S.now.Z.programmes + 1 else -1000003))) (if S.okProg z f t = true ∧ S.now.Z.programmes < 8 then S.remember.sNow (S.now.sZ (S.now.Z.addP z f t)) else S) := by
  refine mk_X6_programme (fun E C hr => ?_)
  have h1 := hp.1
  have h2 := hp.2.1.2
  have h3 := hp.2.1.1.2.1
  clear hp
  (refine nx_ok C (cuts := cut_X6_programme) 1000 _ _ _ _ ?_; simp only [w_X6_programme, ops_eq, xst_eq, call_eq, oK_eq, Option.toList_some, Option.toList_none, List.cons_append, List.nil_append, List.length_cons, List.length_nil, true_and, and_true, Nat.reduceAdd, fpW_F, fpW_A, fpW_S, fpW_P, FT_id, ST_id, FT_gs, ST_gs, PT_gs, ZT_gs, NT_gs, ET_gs, OT_gs, se_X5_has, se_X6_within, se_X6_remember, se_X5_addProgramme, bI_eq, rmb_eq, h1, h2, h3])
  ((repeat' (with_reducible first | apply And.intro | intro _)) <;> simp_all [FT.okProg, FT_id, ST_id, FT_gs, ST_gs, PT_gs, ZT_gs, NT_gs, ET_gs, OT_gs])
def sp_X6_programme : Sp FT := fun av S K => match av with
  | [.ref 0, .int z, .int f, .int t] => (S.good) ∧ K (some (.int (if S.okProg z f t = false then -1000001 else if S.now.Z.programmes < 8 then S.now.Z.programmes + 1 else -1000003))) (if S.okProg z f t = true ∧ S.now.Z.programmes < 8 then S.remember.sNow (S.now.sZ (S.now.Z.addP z f t)) else S)
  | _ => False
theorem se_X6_programme (z : Int32) (f : Int32) (t : Int32) (S : FT) (K : Option Value → FT → Prop) : sp_X6_programme [.ref 0, .int z, .int f, .int t] S K = ((S.good) ∧ K (some (.int (if S.okProg z f t = false then -1000001 else if S.now.Z.programmes < 8 then S.now.Z.programmes + 1 else -1000003))) (if S.okProg z f t = true ∧ S.now.Z.programmes < 8 then S.remember.sNow (S.now.sZ (S.now.Z.addP z f t)) else S)) := rfl
theorem spok_X6_programme : SpOk yX6_programme cX6_programme 4 (some .int) 4 fpW sp_X6_programme := by
  intro av S K h
  unfold sp_X6_programme at h
  split at h
  · rename_i z f t; exact ⟨some (.int (if S.okProg z f t = false then -1000001 else if S.now.Z.programmes < 8 then S.now.Z.programmes + 1 else -1000003)), if S.okProg z f t = true ∧ S.now.Z.programmes < 8 then S.remember.sNow (S.now.sZ (S.now.Z.addP z f t)) else S, trivial, con_X6_programme S z f t h.1, h.2⟩
  · exact h.elim
def ZT.of (S : ZT) (z : Nat) (pr w i : Int32) : Int32 := if w = 0 then S.demands z else if w = 1 then (if S.isOpen z = 0 then 0 else 1) else if w = 2 then S.takes z pr else if w = 3 then S.progsOf i else -1000001
theorem flX6_140 : fldOk RX6 140 5 0 = true := by decide +kernel
def cod_X6_zoneOf : List (Nat × Op FT) := [(0, O_aload 0 1), (1, O_getf fpW 6 0), (4, O_getf fpW 4 2), (7, O_astore 3 1), (8, O_aload 3 1), (9, O_iload 1 1), (10, O_callV 1 12 (fun S : FT => S.now.Z) (fun S u => S.sNow (S.now.sZ u)) sp_X5_has), (13, O_if_ne 19), (16, O_int (-1000001) 2), (18, O_iret), (19, O_iload 2 1), (20, O_switch [(0, 52), (1, 59), (2, 74), (3, 87)] 93), (52, O_aload 3 1), (53, O_getf fpW 5 0), (56, O_iload 1 1), (57, O_ald fpW 0), (58, O_iret), (59, O_aload 3 1), (60, O_getf fpW 5 1), (63, O_iload 1 1), (64, O_ald fpW 1), (65, O_if_eq 72), (68, O_int 1 1), (69, O_goto 73), (72, O_int 0 1), (73, O_iret), (74, O_aload 3 1), (75, O_iload 1 1), (76, O_aload 0 1), (77, O_getf fpW 6 0), (80, O_getf fpW 4 6), (83, O_callV 2 12 (fun S : FT => S.now.Z) (fun S u => S.sNow (S.now.sZ u)) sp_X5_takenBy), (86, O_iret), (87, O_aload 3 1), (88, O_iload 1 1), (89, O_callV 1 12 (fun S : FT => S.now.Z) (fun S u => S.sNow (S.now.sZ u)) sp_X5_programmesOf), (92, O_iret), (93, O_int (-1000001) 2), (95, O_iret)]
abbrev cut_X6_zoneOf : List Nat := []
set_option maxRecDepth 100000 in
theorem okc_X6_zoneOf {E : En} (F : Fx E RX6 cX6_zoneOf 4 1) (G : Fr E (some .int)) : CodOk E fpW cod_X6_zoneOf := by
  unfold CodOk cod_X6_zoneOf
  refine List.forall_mem_cons.mpr ⟨ok_aload_n F dX6_zoneOf_0 rfl (by decide), ?_⟩
  refine List.forall_mem_cons.mpr ⟨ok_getf F flX6_10 dX6_zoneOf_1 (by decide), ?_⟩
  refine List.forall_mem_cons.mpr ⟨ok_getf F flX6_115 dX6_zoneOf_4 (by decide), ?_⟩
  refine List.forall_mem_cons.mpr ⟨ok_astore_n F dX6_zoneOf_7 rfl (by decide) (by decide), ?_⟩
  refine List.forall_mem_cons.mpr ⟨ok_aload_n F dX6_zoneOf_8 rfl (by decide), ?_⟩
  refine List.forall_mem_cons.mpr ⟨ok_iload_n F dX6_zoneOf_9 rfl (by decide), ?_⟩
  refine List.forall_mem_cons.mpr ⟨ok_callV F spok_X5_has ln_fp_now_Z rcv_zW (by decide +kernel) (by decide) dX6_zoneOf_10 (by decide), ?_⟩
  refine List.forall_mem_cons.mpr ⟨ok_if_ne F dX6_zoneOf_13 (by decide) (by decide) (by decide), ?_⟩
  refine List.forall_mem_cons.mpr ⟨ok_ldc F (ix := 41) (wsHas_mem (l := [Jvm.Cond.constant RX6 41 (-1000001)]) (by decide +kernel) (by simp)) dX6_zoneOf_16 (by decide), ?_⟩
  refine List.forall_mem_cons.mpr ⟨ok_iret F G dX6_zoneOf_18 (by decide), ?_⟩
  refine List.forall_mem_cons.mpr ⟨ok_iload_n F dX6_zoneOf_19 rfl (by decide), ?_⟩
  refine List.forall_mem_cons.mpr ⟨ok_table F dX6_zoneOf_20 (by decide +kernel) (by decide), ?_⟩
  refine List.forall_mem_cons.mpr ⟨ok_aload_n F dX6_zoneOf_52 rfl (by decide), ?_⟩
  refine List.forall_mem_cons.mpr ⟨ok_getf F flX6_140 dX6_zoneOf_53 (by decide), ?_⟩
  refine List.forall_mem_cons.mpr ⟨ok_iload_n F dX6_zoneOf_56 rfl (by decide), ?_⟩
  refine List.forall_mem_cons.mpr ⟨ok_iald F dX6_zoneOf_57 (by decide), ?_⟩
  refine List.forall_mem_cons.mpr ⟨ok_iret F G dX6_zoneOf_58 (by decide), ?_⟩
  refine List.forall_mem_cons.mpr ⟨ok_aload_n F dX6_zoneOf_59 rfl (by decide), ?_⟩
  refine List.forall_mem_cons.mpr ⟨ok_getf F flX6_125 dX6_zoneOf_60 (by decide), ?_⟩
  refine List.forall_mem_cons.mpr ⟨ok_iload_n F dX6_zoneOf_63 rfl (by decide), ?_⟩
  refine List.forall_mem_cons.mpr ⟨ok_zald F dX6_zoneOf_64 (by decide), ?_⟩
  refine List.forall_mem_cons.mpr ⟨ok_if_eq F dX6_zoneOf_65 (by decide) (by decide) (by decide), ?_⟩
  refine List.forall_mem_cons.mpr ⟨ok_iconst F dX6_zoneOf_68 (by decide) (by decide), ?_⟩
  refine List.forall_mem_cons.mpr ⟨ok_goto F dX6_zoneOf_69 (by decide) (by decide) (by decide), ?_⟩
  refine List.forall_mem_cons.mpr ⟨ok_iconst F dX6_zoneOf_72 (by decide) (by decide), ?_⟩
  refine List.forall_mem_cons.mpr ⟨ok_iret F G dX6_zoneOf_73 (by decide), ?_⟩
  refine List.forall_mem_cons.mpr ⟨ok_aload_n F dX6_zoneOf_74 rfl (by decide), ?_⟩
  refine List.forall_mem_cons.mpr ⟨ok_iload_n F dX6_zoneOf_75 rfl (by decide), ?_⟩
  refine List.forall_mem_cons.mpr ⟨ok_aload_n F dX6_zoneOf_76 rfl (by decide), ?_⟩
  refine List.forall_mem_cons.mpr ⟨ok_getf F flX6_10 dX6_zoneOf_77 (by decide), ?_⟩
  refine List.forall_mem_cons.mpr ⟨ok_getf F flX6_100 dX6_zoneOf_80 (by decide), ?_⟩
  refine List.forall_mem_cons.mpr ⟨ok_callV F spok_X5_takenBy ln_fp_now_Z rcv_zW (by decide +kernel) (by decide) dX6_zoneOf_83 (by decide), ?_⟩
  refine List.forall_mem_cons.mpr ⟨ok_iret F G dX6_zoneOf_86 (by decide), ?_⟩
  refine List.forall_mem_cons.mpr ⟨ok_aload_n F dX6_zoneOf_87 rfl (by decide), ?_⟩
  refine List.forall_mem_cons.mpr ⟨ok_iload_n F dX6_zoneOf_88 rfl (by decide), ?_⟩
  refine List.forall_mem_cons.mpr ⟨ok_callV F spok_X5_programmesOf ln_fp_now_Z rcv_zW (by decide +kernel) (by decide) dX6_zoneOf_89 (by decide), ?_⟩
  refine List.forall_mem_cons.mpr ⟨ok_iret F G dX6_zoneOf_92 (by decide), ?_⟩
  refine List.forall_mem_cons.mpr ⟨ok_ldc F (ix := 41) (wsHas_mem (l := [Jvm.Cond.constant RX6 41 (-1000001)]) (by decide +kernel) (by simp)) dX6_zoneOf_93 (by decide), ?_⟩
  refine List.forall_mem_cons.mpr ⟨ok_iret F G dX6_zoneOf_95 (by decide), ?_⟩
  exact fun _ h => absurd h List.not_mem_nil
set_option maxRecDepth 100000 in
theorem w_X6_zoneOf : (∀ (K : Kt FT) (n : Nat) (L : xL) (st : List Value) (S : FT), nx cod_X6_zoneOf cut_X6_zoneOf K (n + 1) 0 L st S = (O_aload 0 1) (nx cod_X6_zoneOf cut_X6_zoneOf K n) 0 L st S) ∧
  (∀ (K : Kt FT) (n : Nat) (L : xL) (st : List Value) (S : FT), nx cod_X6_zoneOf cut_X6_zoneOf K (n + 1) 1 L st S = (O_getf fpW 6 0) (nx cod_X6_zoneOf cut_X6_zoneOf K n) 1 L st S) ∧
  (∀ (K : Kt FT) (n : Nat) (L : xL) (st : List Value) (S : FT), nx cod_X6_zoneOf cut_X6_zoneOf K (n + 1) 4 L st S = (O_getf fpW 4 2) (nx cod_X6_zoneOf cut_X6_zoneOf K n) 4 L st S) ∧
  (∀ (K : Kt FT) (n : Nat) (L : xL) (st : List Value) (S : FT), nx cod_X6_zoneOf cut_X6_zoneOf K (n + 1) 7 L st S = (O_astore 3 1) (nx cod_X6_zoneOf cut_X6_zoneOf K n) 7 L st S) ∧
  (∀ (K : Kt FT) (n : Nat) (L : xL) (st : List Value) (S : FT), nx cod_X6_zoneOf cut_X6_zoneOf K (n + 1) 8 L st S = (O_aload 3 1) (nx cod_X6_zoneOf cut_X6_zoneOf K n) 8 L st S) ∧
  (∀ (K : Kt FT) (n : Nat) (L : xL) (st : List Value) (S : FT), nx cod_X6_zoneOf cut_X6_zoneOf K (n + 1) 9 L st S = (O_iload 1 1) (nx cod_X6_zoneOf cut_X6_zoneOf K n) 9 L st S) ∧
  (∀ (K : Kt FT) (n : Nat) (L : xL) (st : List Value) (S : FT), nx cod_X6_zoneOf cut_X6_zoneOf K (n + 1) 10 L st S = (O_callV 1 12 (fun S : FT => S.now.Z) (fun S u => S.sNow (S.now.sZ u)) sp_X5_has) (nx cod_X6_zoneOf cut_X6_zoneOf K n) 10 L st S) ∧
  (∀ (K : Kt FT) (n : Nat) (L : xL) (st : List Value) (S : FT), nx cod_X6_zoneOf cut_X6_zoneOf K (n + 1) 13 L st S = (O_if_ne 19) (nx cod_X6_zoneOf cut_X6_zoneOf K n) 13 L st S) ∧
  (∀ (K : Kt FT) (n : Nat) (L : xL) (st : List Value) (S : FT), nx cod_X6_zoneOf cut_X6_zoneOf K (n + 1) 16 L st S = (O_int (-1000001) 2) (nx cod_X6_zoneOf cut_X6_zoneOf K n) 16 L st S) ∧
  (∀ (K : Kt FT) (n : Nat) (L : xL) (st : List Value) (S : FT), nx cod_X6_zoneOf cut_X6_zoneOf K (n + 1) 18 L st S = (O_iret) (nx cod_X6_zoneOf cut_X6_zoneOf K n) 18 L st S) ∧
  (∀ (K : Kt FT) (n : Nat) (L : xL) (st : List Value) (S : FT), nx cod_X6_zoneOf cut_X6_zoneOf K (n + 1) 19 L st S = (O_iload 2 1) (nx cod_X6_zoneOf cut_X6_zoneOf K n) 19 L st S) ∧
  (∀ (K : Kt FT) (n : Nat) (L : xL) (st : List Value) (S : FT), nx cod_X6_zoneOf cut_X6_zoneOf K (n + 1) 20 L st S = (O_switch [(0, 52), (1, 59), (2, 74), (3, 87)] 93) (nx cod_X6_zoneOf cut_X6_zoneOf K n) 20 L st S) ∧
  (∀ (K : Kt FT) (n : Nat) (L : xL) (st : List Value) (S : FT), nx cod_X6_zoneOf cut_X6_zoneOf K (n + 1) 52 L st S = (O_aload 3 1) (nx cod_X6_zoneOf cut_X6_zoneOf K n) 52 L st S) ∧
  (∀ (K : Kt FT) (n : Nat) (L : xL) (st : List Value) (S : FT), nx cod_X6_zoneOf cut_X6_zoneOf K (n + 1) 53 L st S = (O_getf fpW 5 0) (nx cod_X6_zoneOf cut_X6_zoneOf K n) 53 L st S) ∧
  (∀ (K : Kt FT) (n : Nat) (L : xL) (st : List Value) (S : FT), nx cod_X6_zoneOf cut_X6_zoneOf K (n + 1) 56 L st S = (O_iload 1 1) (nx cod_X6_zoneOf cut_X6_zoneOf K n) 56 L st S) ∧
  (∀ (K : Kt FT) (n : Nat) (L : xL) (st : List Value) (S : FT), nx cod_X6_zoneOf cut_X6_zoneOf K (n + 1) 57 L st S = (O_ald fpW 0) (nx cod_X6_zoneOf cut_X6_zoneOf K n) 57 L st S) ∧
  (∀ (K : Kt FT) (n : Nat) (L : xL) (st : List Value) (S : FT), nx cod_X6_zoneOf cut_X6_zoneOf K (n + 1) 58 L st S = (O_iret) (nx cod_X6_zoneOf cut_X6_zoneOf K n) 58 L st S) ∧
  (∀ (K : Kt FT) (n : Nat) (L : xL) (st : List Value) (S : FT), nx cod_X6_zoneOf cut_X6_zoneOf K (n + 1) 59 L st S = (O_aload 3 1) (nx cod_X6_zoneOf cut_X6_zoneOf K n) 59 L st S) ∧
  (∀ (K : Kt FT) (n : Nat) (L : xL) (st : List Value) (S : FT), nx cod_X6_zoneOf cut_X6_zoneOf K (n + 1) 60 L st S = (O_getf fpW 5 1) (nx cod_X6_zoneOf cut_X6_zoneOf K n) 60 L st S) ∧
  (∀ (K : Kt FT) (n : Nat) (L : xL) (st : List Value) (S : FT), nx cod_X6_zoneOf cut_X6_zoneOf K (n + 1) 63 L st S = (O_iload 1 1) (nx cod_X6_zoneOf cut_X6_zoneOf K n) 63 L st S) ∧
  (∀ (K : Kt FT) (n : Nat) (L : xL) (st : List Value) (S : FT), nx cod_X6_zoneOf cut_X6_zoneOf K (n + 1) 64 L st S = (O_ald fpW 1) (nx cod_X6_zoneOf cut_X6_zoneOf K n) 64 L st S) ∧
  (∀ (K : Kt FT) (n : Nat) (L : xL) (st : List Value) (S : FT), nx cod_X6_zoneOf cut_X6_zoneOf K (n + 1) 65 L st S = (O_if_eq 72) (nx cod_X6_zoneOf cut_X6_zoneOf K n) 65 L st S) ∧
  (∀ (K : Kt FT) (n : Nat) (L : xL) (st : List Value) (S : FT), nx cod_X6_zoneOf cut_X6_zoneOf K (n + 1) 68 L st S = (O_int 1 1) (nx cod_X6_zoneOf cut_X6_zoneOf K n) 68 L st S) ∧
  (∀ (K : Kt FT) (n : Nat) (L : xL) (st : List Value) (S : FT), nx cod_X6_zoneOf cut_X6_zoneOf K (n + 1) 69 L st S = (O_goto 73) (nx cod_X6_zoneOf cut_X6_zoneOf K n) 69 L st S) ∧
  (∀ (K : Kt FT) (n : Nat) (L : xL) (st : List Value) (S : FT), nx cod_X6_zoneOf cut_X6_zoneOf K (n + 1) 72 L st S = (O_int 0 1) (nx cod_X6_zoneOf cut_X6_zoneOf K n) 72 L st S) ∧
  (∀ (K : Kt FT) (n : Nat) (L : xL) (st : List Value) (S : FT), nx cod_X6_zoneOf cut_X6_zoneOf K (n + 1) 73 L st S = (O_iret) (nx cod_X6_zoneOf cut_X6_zoneOf K n) 73 L st S) ∧
  (∀ (K : Kt FT) (n : Nat) (L : xL) (st : List Value) (S : FT), nx cod_X6_zoneOf cut_X6_zoneOf K (n + 1) 74 L st S = (O_aload 3 1) (nx cod_X6_zoneOf cut_X6_zoneOf K n) 74 L st S) ∧
  (∀ (K : Kt FT) (n : Nat) (L : xL) (st : List Value) (S : FT), nx cod_X6_zoneOf cut_X6_zoneOf K (n + 1) 75 L st S = (O_iload 1 1) (nx cod_X6_zoneOf cut_X6_zoneOf K n) 75 L st S) ∧
  (∀ (K : Kt FT) (n : Nat) (L : xL) (st : List Value) (S : FT), nx cod_X6_zoneOf cut_X6_zoneOf K (n + 1) 76 L st S = (O_aload 0 1) (nx cod_X6_zoneOf cut_X6_zoneOf K n) 76 L st S) ∧
  (∀ (K : Kt FT) (n : Nat) (L : xL) (st : List Value) (S : FT), nx cod_X6_zoneOf cut_X6_zoneOf K (n + 1) 77 L st S = (O_getf fpW 6 0) (nx cod_X6_zoneOf cut_X6_zoneOf K n) 77 L st S) ∧
  (∀ (K : Kt FT) (n : Nat) (L : xL) (st : List Value) (S : FT), nx cod_X6_zoneOf cut_X6_zoneOf K (n + 1) 80 L st S = (O_getf fpW 4 6) (nx cod_X6_zoneOf cut_X6_zoneOf K n) 80 L st S) ∧
  (∀ (K : Kt FT) (n : Nat) (L : xL) (st : List Value) (S : FT), nx cod_X6_zoneOf cut_X6_zoneOf K (n + 1) 83 L st S = (O_callV 2 12 (fun S : FT => S.now.Z) (fun S u => S.sNow (S.now.sZ u)) sp_X5_takenBy) (nx cod_X6_zoneOf cut_X6_zoneOf K n) 83 L st S) ∧
  (∀ (K : Kt FT) (n : Nat) (L : xL) (st : List Value) (S : FT), nx cod_X6_zoneOf cut_X6_zoneOf K (n + 1) 86 L st S = (O_iret) (nx cod_X6_zoneOf cut_X6_zoneOf K n) 86 L st S) ∧
  (∀ (K : Kt FT) (n : Nat) (L : xL) (st : List Value) (S : FT), nx cod_X6_zoneOf cut_X6_zoneOf K (n + 1) 87 L st S = (O_aload 3 1) (nx cod_X6_zoneOf cut_X6_zoneOf K n) 87 L st S) ∧
  (∀ (K : Kt FT) (n : Nat) (L : xL) (st : List Value) (S : FT), nx cod_X6_zoneOf cut_X6_zoneOf K (n + 1) 88 L st S = (O_iload 1 1) (nx cod_X6_zoneOf cut_X6_zoneOf K n) 88 L st S) ∧
  (∀ (K : Kt FT) (n : Nat) (L : xL) (st : List Value) (S : FT), nx cod_X6_zoneOf cut_X6_zoneOf K (n + 1) 89 L st S = (O_callV 1 12 (fun S : FT => S.now.Z) (fun S u => S.sNow (S.now.sZ u)) sp_X5_programmesOf) (nx cod_X6_zoneOf cut_X6_zoneOf K n) 89 L st S) ∧
  (∀ (K : Kt FT) (n : Nat) (L : xL) (st : List Value) (S : FT), nx cod_X6_zoneOf cut_X6_zoneOf K (n + 1) 92 L st S = (O_iret) (nx cod_X6_zoneOf cut_X6_zoneOf K n) 92 L st S) ∧
  (∀ (K : Kt FT) (n : Nat) (L : xL) (st : List Value) (S : FT), nx cod_X6_zoneOf cut_X6_zoneOf K (n + 1) 93 L st S = (O_int (-1000001) 2) (nx cod_X6_zoneOf cut_X6_zoneOf K n) 93 L st S) ∧
  (∀ (K : Kt FT) (n : Nat) (L : xL) (st : List Value) (S : FT), nx cod_X6_zoneOf cut_X6_zoneOf K (n + 1) 95 L st S = (O_iret) (nx cod_X6_zoneOf cut_X6_zoneOf K n) 95 L st S) ∧
  (∀ (K : Kt FT) (n : Nat) (L : xL) (st : List Value) (S : FT), nx cod_X6_zoneOf cut_X6_zoneOf K (n + 1) 100000 L st S = K 100000 L st S) := by
  repeat' apply And.intro
  all_goals (intros; rfl)
set_option maxRecDepth 100000 in
theorem mk_X6_zoneOf {P P' : FT} {r : Option Value} {p0 : Int32} {p1 : Int32} (body : ∀ E : En, CodOk E fpW cod_X6_zoneOf → Gd E fpW 100000 [] r.toList P' → Gd E fpW 0 [some (.ref 0), some (.int p0), some (.int p1), none] [] P) : Con yX6_zoneOf cX6_zoneOf 4 (some .int) 1 fpW [.ref 0, .int p0, .int p1] P r P' :=
  Con.of (by decide) rfl rfl (Nat.le_of_ble_eq_true rfl) (fun E F G hr => body E (okc_X6_zoneOf F G) hr)
set_option maxRecDepth 10000 in
theorem con_X6_zoneOf (S : FT) (z : Int32) (w : Int32) (hp : S.good) : Con yX6_zoneOf cX6_zoneOf 4 (some .int) 1 fpW [.ref 0, .int z, .int w] S (some (.int (if S.now.Z.has z = false then -1000001 else S.now.Z.of z.toNatClampNeg S.now.pressure w z))) (S) := by
  refine mk_X6_zoneOf (fun E C hr => ?_)
  have h3 := hp.2.1.1.2.1
  have hv := ZT.has_in (p := z) h3
  clear hp
  (refine nx_ok C (cuts := cut_X6_zoneOf) 1000 _ _ _ _ ?_; simp only [w_X6_zoneOf, ops_eq, xst_eq, call_eq, oK_eq, Option.toList_some, Option.toList_none, List.cons_append, List.nil_append, List.length_cons, List.length_nil, true_and, and_true, Nat.reduceAdd, fpW_F, fpW_A, fpW_S, fpW_P, FT_id, ST_id, FT_gs, ST_gs, PT_gs, ZT_gs, NT_gs, ET_gs, OT_gs, se_X5_has, se_X5_takenBy, se_X5_programmesOf, bI_eq, h3])
  ((repeat' (with_reducible first | apply And.intro | intro _)) <;> (try subst_vars) <;> simp_all [ZT.of, FT_id, ST_id, FT_gs, ST_gs, PT_gs, ZT_gs, NT_gs, ET_gs, OT_gs])
def sp_X6_zoneOf : Sp FT := fun av S K => match av with
  | [.ref 0, .int z, .int w] => (S.good) ∧ K (some (.int (if S.now.Z.has z = false then -1000001 else S.now.Z.of z.toNatClampNeg S.now.pressure w z))) (S)
  | _ => False
theorem se_X6_zoneOf (z : Int32) (w : Int32) (S : FT) (K : Option Value → FT → Prop) : sp_X6_zoneOf [.ref 0, .int z, .int w] S K = ((S.good) ∧ K (some (.int (if S.now.Z.has z = false then -1000001 else S.now.Z.of z.toNatClampNeg S.now.pressure w z))) (S)) := rfl
theorem spok_X6_zoneOf : SpOk yX6_zoneOf cX6_zoneOf 4 (some .int) 1 fpW sp_X6_zoneOf := by
  intro av S K h
  unfold sp_X6_zoneOf at h
  split at h
  · rename_i z w; exact ⟨some (.int (if S.now.Z.has z = false then -1000001 else S.now.Z.of z.toNatClampNeg S.now.pressure w z)), S, trivial, con_X6_zoneOf S z w h.1, h.2⟩
  · exact h.elim
theorem flX6_150 : fldOk RX6 150 4 7 = true := by decide +kernel
def cod_X6_fill : List (Nat × Op FT) := [(0, O_iload 1 1), (1, O_int 0 1), (2, O_int 20000 3), (5, O_callS 3 sp_X6_within), (8, O_if_ne 14), (11, O_int (-1000001) 2), (13, O_iret), (14, O_aload 0 1), (15, O_callV 0 0 (fun S => S) (fun _ S' => S') sp_X6_remember), (18, O_aload 0 1), (19, O_getf fpW 6 0), (22, O_getf fpW 4 7), (25, O_istore 2 1), (26, O_aload 0 1), (27, O_getf fpW 6 0), (30, O_iload 1 1), (31, O_puti fpW_p4_7), (34, O_iload 2 1), (35, O_iret)]
abbrev cut_X6_fill : List Nat := []
set_option maxRecDepth 100000 in
theorem okc_X6_fill {E : En} (F : Fx E RX6 cX6_fill 3 4) (G : Fr E (some .int)) : CodOk E fpW cod_X6_fill := by
  unfold CodOk cod_X6_fill
  refine List.forall_mem_cons.mpr ⟨ok_iload_n F dX6_fill_0 rfl (by decide), ?_⟩
  refine List.forall_mem_cons.mpr ⟨ok_iconst F dX6_fill_1 (by decide) (by decide), ?_⟩
  refine List.forall_mem_cons.mpr ⟨ok_sipush F dX6_fill_2 (by decide) (by decide), ?_⟩
  refine List.forall_mem_cons.mpr ⟨ok_callS F spok_X6_within (by decide +kernel) rfl (by decide) dX6_fill_5 (by decide), ?_⟩
  refine List.forall_mem_cons.mpr ⟨ok_if_ne F dX6_fill_8 (by decide) (by decide) (by decide), ?_⟩
  refine List.forall_mem_cons.mpr ⟨ok_ldc F (ix := 41) (wsHas_mem (l := [Jvm.Cond.constant RX6 41 (-1000001)]) (by decide +kernel) (by simp)) dX6_fill_11 (by decide), ?_⟩
  refine List.forall_mem_cons.mpr ⟨ok_iret F G dX6_fill_13 (by decide), ?_⟩
  refine List.forall_mem_cons.mpr ⟨ok_aload_n F dX6_fill_14 rfl (by decide), ?_⟩
  refine List.forall_mem_cons.mpr ⟨ok_callV F spok_X6_remember (ln_id fpW) rcv_fpW (by decide +kernel) (by decide) dX6_fill_15 (by decide), ?_⟩
  refine List.forall_mem_cons.mpr ⟨ok_aload_n F dX6_fill_18 rfl (by decide), ?_⟩
  refine List.forall_mem_cons.mpr ⟨ok_getf F flX6_10 dX6_fill_19 (by decide), ?_⟩
  refine List.forall_mem_cons.mpr ⟨ok_getf F flX6_150 dX6_fill_22 (by decide), ?_⟩
  refine List.forall_mem_cons.mpr ⟨ok_istore_n F dX6_fill_25 rfl (by decide) (by decide), ?_⟩
  refine List.forall_mem_cons.mpr ⟨ok_aload_n F dX6_fill_26 rfl (by decide), ?_⟩
  refine List.forall_mem_cons.mpr ⟨ok_getf F flX6_10 dX6_fill_27 (by decide), ?_⟩
  refine List.forall_mem_cons.mpr ⟨ok_iload_n F dX6_fill_30 rfl (by decide), ?_⟩
  refine List.forall_mem_cons.mpr ⟨ok_puti F fpW_p4_7_ok (fun _ _ _ h => by cases h; rfl) rfl flX6_150 dX6_fill_31 (by decide), ?_⟩
  refine List.forall_mem_cons.mpr ⟨ok_iload_n F dX6_fill_34 rfl (by decide), ?_⟩
  refine List.forall_mem_cons.mpr ⟨ok_iret F G dX6_fill_35 (by decide), ?_⟩
  exact fun _ h => absurd h List.not_mem_nil
set_option maxRecDepth 100000 in
theorem w_X6_fill : (∀ (K : Kt FT) (n : Nat) (L : xL) (st : List Value) (S : FT), nx cod_X6_fill cut_X6_fill K (n + 1) 0 L st S = (O_iload 1 1) (nx cod_X6_fill cut_X6_fill K n) 0 L st S) ∧
  (∀ (K : Kt FT) (n : Nat) (L : xL) (st : List Value) (S : FT), nx cod_X6_fill cut_X6_fill K (n + 1) 1 L st S = (O_int 0 1) (nx cod_X6_fill cut_X6_fill K n) 1 L st S) ∧
  (∀ (K : Kt FT) (n : Nat) (L : xL) (st : List Value) (S : FT), nx cod_X6_fill cut_X6_fill K (n + 1) 2 L st S = (O_int 20000 3) (nx cod_X6_fill cut_X6_fill K n) 2 L st S) ∧
  (∀ (K : Kt FT) (n : Nat) (L : xL) (st : List Value) (S : FT), nx cod_X6_fill cut_X6_fill K (n + 1) 5 L st S = (O_callS 3 sp_X6_within) (nx cod_X6_fill cut_X6_fill K n) 5 L st S) ∧
  (∀ (K : Kt FT) (n : Nat) (L : xL) (st : List Value) (S : FT), nx cod_X6_fill cut_X6_fill K (n + 1) 8 L st S = (O_if_ne 14) (nx cod_X6_fill cut_X6_fill K n) 8 L st S) ∧
  (∀ (K : Kt FT) (n : Nat) (L : xL) (st : List Value) (S : FT), nx cod_X6_fill cut_X6_fill K (n + 1) 11 L st S = (O_int (-1000001) 2) (nx cod_X6_fill cut_X6_fill K n) 11 L st S) ∧
  (∀ (K : Kt FT) (n : Nat) (L : xL) (st : List Value) (S : FT), nx cod_X6_fill cut_X6_fill K (n + 1) 13 L st S = (O_iret) (nx cod_X6_fill cut_X6_fill K n) 13 L st S) ∧
  (∀ (K : Kt FT) (n : Nat) (L : xL) (st : List Value) (S : FT), nx cod_X6_fill cut_X6_fill K (n + 1) 14 L st S = (O_aload 0 1) (nx cod_X6_fill cut_X6_fill K n) 14 L st S) ∧
  (∀ (K : Kt FT) (n : Nat) (L : xL) (st : List Value) (S : FT), nx cod_X6_fill cut_X6_fill K (n + 1) 15 L st S = (O_callV 0 0 (fun S => S) (fun _ S' => S') sp_X6_remember) (nx cod_X6_fill cut_X6_fill K n) 15 L st S) ∧
  (∀ (K : Kt FT) (n : Nat) (L : xL) (st : List Value) (S : FT), nx cod_X6_fill cut_X6_fill K (n + 1) 18 L st S = (O_aload 0 1) (nx cod_X6_fill cut_X6_fill K n) 18 L st S) ∧
  (∀ (K : Kt FT) (n : Nat) (L : xL) (st : List Value) (S : FT), nx cod_X6_fill cut_X6_fill K (n + 1) 19 L st S = (O_getf fpW 6 0) (nx cod_X6_fill cut_X6_fill K n) 19 L st S) ∧
  (∀ (K : Kt FT) (n : Nat) (L : xL) (st : List Value) (S : FT), nx cod_X6_fill cut_X6_fill K (n + 1) 22 L st S = (O_getf fpW 4 7) (nx cod_X6_fill cut_X6_fill K n) 22 L st S) ∧
  (∀ (K : Kt FT) (n : Nat) (L : xL) (st : List Value) (S : FT), nx cod_X6_fill cut_X6_fill K (n + 1) 25 L st S = (O_istore 2 1) (nx cod_X6_fill cut_X6_fill K n) 25 L st S) ∧
  (∀ (K : Kt FT) (n : Nat) (L : xL) (st : List Value) (S : FT), nx cod_X6_fill cut_X6_fill K (n + 1) 26 L st S = (O_aload 0 1) (nx cod_X6_fill cut_X6_fill K n) 26 L st S) ∧
  (∀ (K : Kt FT) (n : Nat) (L : xL) (st : List Value) (S : FT), nx cod_X6_fill cut_X6_fill K (n + 1) 27 L st S = (O_getf fpW 6 0) (nx cod_X6_fill cut_X6_fill K n) 27 L st S) ∧
  (∀ (K : Kt FT) (n : Nat) (L : xL) (st : List Value) (S : FT), nx cod_X6_fill cut_X6_fill K (n + 1) 30 L st S = (O_iload 1 1) (nx cod_X6_fill cut_X6_fill K n) 30 L st S) ∧
  (∀ (K : Kt FT) (n : Nat) (L : xL) (st : List Value) (S : FT), nx cod_X6_fill cut_X6_fill K (n + 1) 31 L st S = (O_puti fpW_p4_7) (nx cod_X6_fill cut_X6_fill K n) 31 L st S) ∧
  (∀ (K : Kt FT) (n : Nat) (L : xL) (st : List Value) (S : FT), nx cod_X6_fill cut_X6_fill K (n + 1) 34 L st S = (O_iload 2 1) (nx cod_X6_fill cut_X6_fill K n) 34 L st S) ∧
  (∀ (K : Kt FT) (n : Nat) (L : xL) (st : List Value) (S : FT), nx cod_X6_fill cut_X6_fill K (n + 1) 35 L st S = (O_iret) (nx cod_X6_fill cut_X6_fill K n) 35 L st S) ∧
  (∀ (K : Kt FT) (n : Nat) (L : xL) (st : List Value) (S : FT), nx cod_X6_fill cut_X6_fill K (n + 1) 100000 L st S = K 100000 L st S) := by
  repeat' apply And.intro
  all_goals (intros; rfl)
set_option maxRecDepth 100000 in
theorem mk_X6_fill {P P' : FT} {r : Option Value} {p0 : Int32} (body : ∀ E : En, CodOk E fpW cod_X6_fill → Gd E fpW 100000 [] r.toList P' → Gd E fpW 0 [some (.ref 0), some (.int p0), none] [] P) : Con yX6_fill cX6_fill 3 (some .int) 4 fpW [.ref 0, .int p0] P r P' :=
  Con.of (by decide) rfl rfl (Nat.le_of_ble_eq_true rfl) (fun E F G hr => body E (okc_X6_fill F G) hr)
set_option maxRecDepth 10000 in
theorem con_X6_fill (S : FT) (v : Int32) (hp : S.good) : Con yX6_fill cX6_fill 3 (some .int) 4 fpW [.ref 0, .int v] S (some (.int (if inR v 0 20000 = false then -1000001 else S.now.level))) (if inR v 0 20000 = true then S.remember.sNow (S.now.sLevel v) else S) := by
  refine mk_X6_fill (fun E C hr => ?_)
  have h1 := hp.1
  have h2 := hp.2.1.2
  clear hp
  (refine nx_ok C (cuts := cut_X6_fill) 1000 _ _ _ _ ?_; simp only [w_X6_fill, ops_eq, xst_eq, call_eq, oK_eq, Option.toList_some, Option.toList_none, List.cons_append, List.nil_append, List.length_cons, List.length_nil, true_and, and_true, Nat.reduceAdd, fpW_F, fpW_A, fpW_S, fpW_P, FT_id, ST_id, FT_gs, ST_gs, PT_gs, ZT_gs, NT_gs, ET_gs, OT_gs, se_X6_within, se_X6_remember, bI_eq, rmb_eq, h1, h2])
  ((repeat' (with_reducible first | apply And.intro | intro _)) <;> simp_all [FT_id, ST_id, FT_gs, ST_gs, PT_gs, ZT_gs, NT_gs, ET_gs, OT_gs])
def sp_X6_fill : Sp FT := fun av S K => match av with
  | [.ref 0, .int v] => (S.good) ∧ K (some (.int (if inR v 0 20000 = false then -1000001 else S.now.level))) (if inR v 0 20000 = true then S.remember.sNow (S.now.sLevel v) else S)
  | _ => False
theorem se_X6_fill (v : Int32) (S : FT) (K : Option Value → FT → Prop) : sp_X6_fill [.ref 0, .int v] S K = ((S.good) ∧ K (some (.int (if inR v 0 20000 = false then -1000001 else S.now.level))) (if inR v 0 20000 = true then S.remember.sNow (S.now.sLevel v) else S)) := rfl
theorem spok_X6_fill : SpOk yX6_fill cX6_fill 3 (some .int) 4 fpW sp_X6_fill := by
  intro av S K h
  unfold sp_X6_fill at h
  split at h
  · rename_i v; exact ⟨some (.int (if inR v 0 20000 = false then -1000001 else S.now.level)), if inR v 0 20000 = true then S.remember.sNow (S.now.sLevel v) else S, trivial, con_X6_fill S v h.1, h.2⟩
  · exact h.elim
theorem flX6_153 : fldOk RX6 153 4 13 = true := by decide +kernel
def cod_X6_reset : List (Nat × Op FT) := [(0, O_aload 0 1), (1, O_getf fpW 6 0), (4, O_getf fpW 4 13), (7, O_if_ne 13), (10, O_int (-1000002) 2), (12, O_iret), (13, O_aload 0 1), (14, O_callV 0 0 (fun S => S) (fun _ S' => S') sp_X6_remember), (17, O_aload 0 1), (18, O_getf fpW 6 0), (21, O_getf fpW 4 13), (24, O_istore 1 1), (25, O_aload 0 1), (26, O_getf fpW 6 0), (29, O_callV 0 1 (fun S : FT => S.now) (fun S u => S.sNow u) sp_X4_forgetTrips), (32, O_iload 1 1), (33, O_iret)]
abbrev cut_X6_reset : List Nat := []
set_option maxRecDepth 100000 in
theorem okc_X6_reset {E : En} (F : Fx E RX6 cX6_reset 2 4) (G : Fr E (some .int)) : CodOk E fpW cod_X6_reset := by
  unfold CodOk cod_X6_reset
  refine List.forall_mem_cons.mpr ⟨ok_aload_n F dX6_reset_0 rfl (by decide), ?_⟩
  refine List.forall_mem_cons.mpr ⟨ok_getf F flX6_10 dX6_reset_1 (by decide), ?_⟩
  refine List.forall_mem_cons.mpr ⟨ok_getf F flX6_153 dX6_reset_4 (by decide), ?_⟩
  refine List.forall_mem_cons.mpr ⟨ok_if_ne F dX6_reset_7 (by decide) (by decide) (by decide), ?_⟩
  refine List.forall_mem_cons.mpr ⟨ok_ldc F (ix := 71) (wsHas_mem (l := [Jvm.Cond.constant RX6 71 (-1000002)]) (by decide +kernel) (by simp)) dX6_reset_10 (by decide), ?_⟩
  refine List.forall_mem_cons.mpr ⟨ok_iret F G dX6_reset_12 (by decide), ?_⟩
  refine List.forall_mem_cons.mpr ⟨ok_aload_n F dX6_reset_13 rfl (by decide), ?_⟩
  refine List.forall_mem_cons.mpr ⟨ok_callV F spok_X6_remember (ln_id fpW) rcv_fpW (by decide +kernel) (by decide) dX6_reset_14 (by decide), ?_⟩
  refine List.forall_mem_cons.mpr ⟨ok_aload_n F dX6_reset_17 rfl (by decide), ?_⟩
  refine List.forall_mem_cons.mpr ⟨ok_getf F flX6_10 dX6_reset_18 (by decide), ?_⟩
  refine List.forall_mem_cons.mpr ⟨ok_getf F flX6_153 dX6_reset_21 (by decide), ?_⟩
  refine List.forall_mem_cons.mpr ⟨ok_istore_n F dX6_reset_24 rfl (by decide) (by decide), ?_⟩
  refine List.forall_mem_cons.mpr ⟨ok_aload_n F dX6_reset_25 rfl (by decide), ?_⟩
  refine List.forall_mem_cons.mpr ⟨ok_getf F flX6_10 dX6_reset_26 (by decide), ?_⟩
  refine List.forall_mem_cons.mpr ⟨ok_callV F spok_X4_forgetTrips ln_fp_now rcv_stW (by decide +kernel) (by decide) dX6_reset_29 (by decide), ?_⟩
  refine List.forall_mem_cons.mpr ⟨ok_iload_n F dX6_reset_32 rfl (by decide), ?_⟩
  refine List.forall_mem_cons.mpr ⟨ok_iret F G dX6_reset_33 (by decide), ?_⟩
  exact fun _ h => absurd h List.not_mem_nil
set_option maxRecDepth 100000 in
theorem w_X6_reset : (∀ (K : Kt FT) (n : Nat) (L : xL) (st : List Value) (S : FT), nx cod_X6_reset cut_X6_reset K (n + 1) 0 L st S = (O_aload 0 1) (nx cod_X6_reset cut_X6_reset K n) 0 L st S) ∧
  (∀ (K : Kt FT) (n : Nat) (L : xL) (st : List Value) (S : FT), nx cod_X6_reset cut_X6_reset K (n + 1) 1 L st S = (O_getf fpW 6 0) (nx cod_X6_reset cut_X6_reset K n) 1 L st S) ∧
  (∀ (K : Kt FT) (n : Nat) (L : xL) (st : List Value) (S : FT), nx cod_X6_reset cut_X6_reset K (n + 1) 4 L st S = (O_getf fpW 4 13) (nx cod_X6_reset cut_X6_reset K n) 4 L st S) ∧
  (∀ (K : Kt FT) (n : Nat) (L : xL) (st : List Value) (S : FT), nx cod_X6_reset cut_X6_reset K (n + 1) 7 L st S = (O_if_ne 13) (nx cod_X6_reset cut_X6_reset K n) 7 L st S) ∧
  (∀ (K : Kt FT) (n : Nat) (L : xL) (st : List Value) (S : FT), nx cod_X6_reset cut_X6_reset K (n + 1) 10 L st S = (O_int (-1000002) 2) (nx cod_X6_reset cut_X6_reset K n) 10 L st S) ∧
  (∀ (K : Kt FT) (n : Nat) (L : xL) (st : List Value) (S : FT), nx cod_X6_reset cut_X6_reset K (n + 1) 12 L st S = (O_iret) (nx cod_X6_reset cut_X6_reset K n) 12 L st S) ∧
  (∀ (K : Kt FT) (n : Nat) (L : xL) (st : List Value) (S : FT), nx cod_X6_reset cut_X6_reset K (n + 1) 13 L st S = (O_aload 0 1) (nx cod_X6_reset cut_X6_reset K n) 13 L st S) ∧
  (∀ (K : Kt FT) (n : Nat) (L : xL) (st : List Value) (S : FT), nx cod_X6_reset cut_X6_reset K (n + 1) 14 L st S = (O_callV 0 0 (fun S => S) (fun _ S' => S') sp_X6_remember) (nx cod_X6_reset cut_X6_reset K n) 14 L st S) ∧
  (∀ (K : Kt FT) (n : Nat) (L : xL) (st : List Value) (S : FT), nx cod_X6_reset cut_X6_reset K (n + 1) 17 L st S = (O_aload 0 1) (nx cod_X6_reset cut_X6_reset K n) 17 L st S) ∧
  (∀ (K : Kt FT) (n : Nat) (L : xL) (st : List Value) (S : FT), nx cod_X6_reset cut_X6_reset K (n + 1) 18 L st S = (O_getf fpW 6 0) (nx cod_X6_reset cut_X6_reset K n) 18 L st S) ∧
  (∀ (K : Kt FT) (n : Nat) (L : xL) (st : List Value) (S : FT), nx cod_X6_reset cut_X6_reset K (n + 1) 21 L st S = (O_getf fpW 4 13) (nx cod_X6_reset cut_X6_reset K n) 21 L st S) ∧
  (∀ (K : Kt FT) (n : Nat) (L : xL) (st : List Value) (S : FT), nx cod_X6_reset cut_X6_reset K (n + 1) 24 L st S = (O_istore 1 1) (nx cod_X6_reset cut_X6_reset K n) 24 L st S) ∧
  (∀ (K : Kt FT) (n : Nat) (L : xL) (st : List Value) (S : FT), nx cod_X6_reset cut_X6_reset K (n + 1) 25 L st S = (O_aload 0 1) (nx cod_X6_reset cut_X6_reset K n) 25 L st S) ∧
  (∀ (K : Kt FT) (n : Nat) (L : xL) (st : List Value) (S : FT), nx cod_X6_reset cut_X6_reset K (n + 1) 26 L st S = (O_getf fpW 6 0) (nx cod_X6_reset cut_X6_reset K n) 26 L st S) ∧
  (∀ (K : Kt FT) (n : Nat) (L : xL) (st : List Value) (S : FT), nx cod_X6_reset cut_X6_reset K (n + 1) 29 L st S = (O_callV 0 1 (fun S : FT => S.now) (fun S u => S.sNow u) sp_X4_forgetTrips) (nx cod_X6_reset cut_X6_reset K n) 29 L st S) ∧
  (∀ (K : Kt FT) (n : Nat) (L : xL) (st : List Value) (S : FT), nx cod_X6_reset cut_X6_reset K (n + 1) 32 L st S = (O_iload 1 1) (nx cod_X6_reset cut_X6_reset K n) 32 L st S) ∧
  (∀ (K : Kt FT) (n : Nat) (L : xL) (st : List Value) (S : FT), nx cod_X6_reset cut_X6_reset K (n + 1) 33 L st S = (O_iret) (nx cod_X6_reset cut_X6_reset K n) 33 L st S) ∧
  (∀ (K : Kt FT) (n : Nat) (L : xL) (st : List Value) (S : FT), nx cod_X6_reset cut_X6_reset K (n + 1) 100000 L st S = K 100000 L st S) := by
  repeat' apply And.intro
  all_goals (intros; rfl)
set_option maxRecDepth 100000 in
theorem mk_X6_reset {P P' : FT} {r : Option Value}  (body : ∀ E : En, CodOk E fpW cod_X6_reset → Gd E fpW 100000 [] r.toList P' → Gd E fpW 0 [some (.ref 0), none] [] P) : Con yX6_reset cX6_reset 2 (some .int) 4 fpW [.ref 0] P r P' :=
  Con.of (by decide) rfl rfl (Nat.le_of_ble_eq_true rfl) (fun E F G hr => body E (okc_X6_reset F G) hr)
set_option maxRecDepth 10000 in
theorem con_X6_reset (S : FT)  (hp : S.good) : Con yX6_reset cX6_reset 2 (some .int) 4 fpW [.ref 0] S (some (.int (if S.now.trips = 0 then -1000002 else S.now.trips))) (if S.now.trips = 0 then S else S.remember.sNow (S.now.sTrips 0).goOn) := by
  refine mk_X6_reset (fun E C hr => ?_)
  have h1 := hp.1
  have h2 := hp.2.1.2
  clear hp
  (refine nx_ok C (cuts := cut_X6_reset) 1000 _ _ _ _ ?_; simp only [w_X6_reset, ops_eq, xst_eq, call_eq, oK_eq, Option.toList_some, Option.toList_none, List.cons_append, List.nil_append, List.length_cons, List.length_nil, true_and, and_true, Nat.reduceAdd, fpW_F, fpW_A, fpW_S, fpW_P, FT_id, ST_id, FT_gs, ST_gs, PT_gs, ZT_gs, NT_gs, ET_gs, OT_gs, se_X6_remember, se_X4_forgetTrips, bI_eq, rmb_eq, h1, h2])
  ((repeat' (with_reducible first | apply And.intro | intro _)) <;> simp_all [FT_id, ST_id, FT_gs, ST_gs, PT_gs, ZT_gs, NT_gs, ET_gs, OT_gs])
def sp_X6_reset : Sp FT := fun av S K => match av with
  | [.ref 0] => (S.good) ∧ K (some (.int (if S.now.trips = 0 then -1000002 else S.now.trips))) (if S.now.trips = 0 then S else S.remember.sNow (S.now.sTrips 0).goOn)
  | _ => False
theorem se_X6_reset  (S : FT) (K : Option Value → FT → Prop) : sp_X6_reset [.ref 0] S K = ((S.good) ∧ K (some (.int (if S.now.trips = 0 then -1000002 else S.now.trips))) (if S.now.trips = 0 then S else S.remember.sNow (S.now.sTrips 0).goOn)) := rfl
theorem spok_X6_reset : SpOk yX6_reset cX6_reset 2 (some .int) 4 fpW sp_X6_reset := by
  intro av S K h
  unfold sp_X6_reset at h
  split at h
  · exact ⟨some (.int (if S.now.trips = 0 then -1000002 else S.now.trips)), if S.now.trips = 0 then S else S.remember.sNow (S.now.sTrips 0).goOn, trivial, con_X6_reset S  h.1, h.2⟩
  · exact h.elim
theorem flX6_172 : fldOk RX6 172 4 9 = true := by decide +kernel
theorem flX6_187 : fldOk RX6 187 4 11 = true := by decide +kernel
theorem flX6_191 : fldOk RX6 191 4 12 = true := by decide +kernel
theorem flX6_194 : fldOk RX6 194 4 3 = true := by decide +kernel
theorem flX6_198 : fldOk RX6 198 1 2 = true := by decide +kernel
theorem flX6_203 : fldOk RX6 203 1 3 = true := by decide +kernel
theorem flX6_206 : fldOk RX6 206 4 14 = true := by decide +kernel
theorem flX6_209 : fldOk RX6 209 4 15 = true := by decide +kernel
theorem flX6_212 : fldOk RX6 212 4 16 = true := by decide +kernel
theorem flX6_215 : fldOk RX6 215 4 10 = true := by decide +kernel
def cod_X6_station : List (Nat × Op FT) := [(0, O_iload 1 1), (1, O_switch [(0, 76), (1, 84), (2, 92), (3, 100), (4, 108), (5, 138), (6, 149), (7, 165), (8, 173), (9, 181), (10, 192), (11, 203), (12, 211), (13, 219), (14, 227)] 235), (76, O_aload 0 1), (77, O_getf fpW 6 0), (80, O_getf fpW 4 6), (83, O_iret), (84, O_aload 0 1), (85, O_getf fpW 6 0), (88, O_getf fpW 4 7), (91, O_iret), (92, O_aload 0 1), (93, O_getf fpW 6 0), (96, O_getf fpW 4 9), (99, O_iret), (100, O_aload 0 1), (101, O_getf fpW 6 0), (104, O_callV 0 1 (fun S : FT => S.now) (fun S u => S.sNow u) sp_X4_demand), (107, O_iret), (108, O_aload 0 1), (109, O_getf fpW 6 0), (112, O_getf fpW 4 1), (115, O_getf fpW 3 9), (118, O_int (-1) 1), (119, O_icmp_ne 127), (122, O_int (-1000004) 2), (124, O_goto 137), (127, O_aload 0 1), (128, O_getf fpW 6 0), (131, O_getf fpW 4 1), (134, O_getf fpW 3 9), (137, O_iret), (138, O_aload 0 1), (139, O_getf fpW 6 0), (142, O_getf fpW 4 1), (145, O_callV 0 3 (fun S : FT => S.now.P) (fun S u => S.sNow (S.now.sP u)) sp_X3_running), (148, O_iret), (149, O_aload 0 1), (150, O_getf fpW 6 0), (153, O_getf fpW 4 11), (156, O_if_eq 163), (159, O_int 1 1), (160, O_goto 164), (163, O_int 0 1), (164, O_iret), (165, O_aload 0 1), (166, O_getf fpW 6 0), (169, O_getf fpW 4 13), (172, O_iret), (173, O_aload 0 1), (174, O_getf fpW 6 0), (177, O_getf fpW 4 12), (180, O_iret), (181, O_aload 0 1), (182, O_getf fpW 6 0), (185, O_getf fpW 4 3), (188, O_getf fpW 1 2), (191, O_iret), (192, O_aload 0 1), (193, O_getf fpW 6 0), (196, O_getf fpW 4 3), (199, O_getf fpW 1 3), (202, O_iret), (203, O_aload 0 1), (204, O_getf fpW 6 0), (207, O_getf fpW 4 14), (210, O_iret), (211, O_aload 0 1), (212, O_getf fpW 6 0), (215, O_getf fpW 4 15), (218, O_iret), (219, O_aload 0 1), (220, O_getf fpW 6 0), (223, O_getf fpW 4 16), (226, O_iret), (227, O_aload 0 1), (228, O_getf fpW 6 0), (231, O_getf fpW 4 10), (234, O_iret), (235, O_int (-1000001) 2), (237, O_iret)]
abbrev cut_X6_station : List Nat := []
set_option maxRecDepth 100000 in
theorem okc_X6_station {E : En} (F : Fx E RX6 cX6_station 2 3) (G : Fr E (some .int)) : CodOk E fpW cod_X6_station := by
  unfold CodOk cod_X6_station
  refine List.forall_mem_cons.mpr ⟨ok_iload_n F dX6_station_0 rfl (by decide), ?_⟩
  refine List.forall_mem_cons.mpr ⟨ok_table F dX6_station_1 (by decide +kernel) (by decide), ?_⟩
  refine List.forall_mem_cons.mpr ⟨ok_aload_n F dX6_station_76 rfl (by decide), ?_⟩
  refine List.forall_mem_cons.mpr ⟨ok_getf F flX6_10 dX6_station_77 (by decide), ?_⟩
  refine List.forall_mem_cons.mpr ⟨ok_getf F flX6_100 dX6_station_80 (by decide), ?_⟩
  refine List.forall_mem_cons.mpr ⟨ok_iret F G dX6_station_83 (by decide), ?_⟩
  refine List.forall_mem_cons.mpr ⟨ok_aload_n F dX6_station_84 rfl (by decide), ?_⟩
  refine List.forall_mem_cons.mpr ⟨ok_getf F flX6_10 dX6_station_85 (by decide), ?_⟩
  refine List.forall_mem_cons.mpr ⟨ok_getf F flX6_150 dX6_station_88 (by decide), ?_⟩
  refine List.forall_mem_cons.mpr ⟨ok_iret F G dX6_station_91 (by decide), ?_⟩
  refine List.forall_mem_cons.mpr ⟨ok_aload_n F dX6_station_92 rfl (by decide), ?_⟩
  refine List.forall_mem_cons.mpr ⟨ok_getf F flX6_10 dX6_station_93 (by decide), ?_⟩
  refine List.forall_mem_cons.mpr ⟨ok_getf F flX6_172 dX6_station_96 (by decide), ?_⟩
  refine List.forall_mem_cons.mpr ⟨ok_iret F G dX6_station_99 (by decide), ?_⟩
  refine List.forall_mem_cons.mpr ⟨ok_aload_n F dX6_station_100 rfl (by decide), ?_⟩
  refine List.forall_mem_cons.mpr ⟨ok_getf F flX6_10 dX6_station_101 (by decide), ?_⟩
  refine List.forall_mem_cons.mpr ⟨ok_callV F spok_X4_demand ln_fp_now rcv_stW (by decide +kernel) (by decide) dX6_station_104 (by decide), ?_⟩
  refine List.forall_mem_cons.mpr ⟨ok_iret F G dX6_station_107 (by decide), ?_⟩
  refine List.forall_mem_cons.mpr ⟨ok_aload_n F dX6_station_108 rfl (by decide), ?_⟩
  refine List.forall_mem_cons.mpr ⟨ok_getf F flX6_10 dX6_station_109 (by decide), ?_⟩
  refine List.forall_mem_cons.mpr ⟨ok_getf F flX6_50 dX6_station_112 (by decide), ?_⟩
  refine List.forall_mem_cons.mpr ⟨ok_getf F flX6_88 dX6_station_115 (by decide), ?_⟩
  refine List.forall_mem_cons.mpr ⟨ok_iconst F dX6_station_118 (by decide) (by decide), ?_⟩
  refine List.forall_mem_cons.mpr ⟨ok_icmp_ne F dX6_station_119 (by decide) (by decide) (by decide), ?_⟩
  refine List.forall_mem_cons.mpr ⟨ok_ldc F (ix := 110) (wsHas_mem (l := [Jvm.Cond.constant RX6 110 (-1000004)]) (by decide +kernel) (by simp)) dX6_station_122 (by decide), ?_⟩
  refine List.forall_mem_cons.mpr ⟨ok_goto F dX6_station_124 (by decide) (by decide) (by decide), ?_⟩
  refine List.forall_mem_cons.mpr ⟨ok_aload_n F dX6_station_127 rfl (by decide), ?_⟩
  refine List.forall_mem_cons.mpr ⟨ok_getf F flX6_10 dX6_station_128 (by decide), ?_⟩
  refine List.forall_mem_cons.mpr ⟨ok_getf F flX6_50 dX6_station_131 (by decide), ?_⟩
  refine List.forall_mem_cons.mpr ⟨ok_getf F flX6_88 dX6_station_134 (by decide), ?_⟩
  refine List.forall_mem_cons.mpr ⟨ok_iret F G dX6_station_137 (by decide), ?_⟩
  refine List.forall_mem_cons.mpr ⟨ok_aload_n F dX6_station_138 rfl (by decide), ?_⟩
  refine List.forall_mem_cons.mpr ⟨ok_getf F flX6_10 dX6_station_139 (by decide), ?_⟩
  refine List.forall_mem_cons.mpr ⟨ok_getf F flX6_50 dX6_station_142 (by decide), ?_⟩
  refine List.forall_mem_cons.mpr ⟨ok_callV F spok_X3_running ln_fp_now_P rcv_pW (by decide +kernel) (by decide) dX6_station_145 (by decide), ?_⟩
  refine List.forall_mem_cons.mpr ⟨ok_iret F G dX6_station_148 (by decide), ?_⟩
  refine List.forall_mem_cons.mpr ⟨ok_aload_n F dX6_station_149 rfl (by decide), ?_⟩
  refine List.forall_mem_cons.mpr ⟨ok_getf F flX6_10 dX6_station_150 (by decide), ?_⟩
  refine List.forall_mem_cons.mpr ⟨ok_getf F flX6_187 dX6_station_153 (by decide), ?_⟩
  refine List.forall_mem_cons.mpr ⟨ok_if_eq F dX6_station_156 (by decide) (by decide) (by decide), ?_⟩
  refine List.forall_mem_cons.mpr ⟨ok_iconst F dX6_station_159 (by decide) (by decide), ?_⟩
  refine List.forall_mem_cons.mpr ⟨ok_goto F dX6_station_160 (by decide) (by decide) (by decide), ?_⟩
  refine List.forall_mem_cons.mpr ⟨ok_iconst F dX6_station_163 (by decide) (by decide), ?_⟩
  refine List.forall_mem_cons.mpr ⟨ok_iret F G dX6_station_164 (by decide), ?_⟩
  refine List.forall_mem_cons.mpr ⟨ok_aload_n F dX6_station_165 rfl (by decide), ?_⟩
  refine List.forall_mem_cons.mpr ⟨ok_getf F flX6_10 dX6_station_166 (by decide), ?_⟩
  refine List.forall_mem_cons.mpr ⟨ok_getf F flX6_153 dX6_station_169 (by decide), ?_⟩
  refine List.forall_mem_cons.mpr ⟨ok_iret F G dX6_station_172 (by decide), ?_⟩
  refine List.forall_mem_cons.mpr ⟨ok_aload_n F dX6_station_173 rfl (by decide), ?_⟩
  refine List.forall_mem_cons.mpr ⟨ok_getf F flX6_10 dX6_station_174 (by decide), ?_⟩
  refine List.forall_mem_cons.mpr ⟨ok_getf F flX6_191 dX6_station_177 (by decide), ?_⟩
  refine List.forall_mem_cons.mpr ⟨ok_iret F G dX6_station_180 (by decide), ?_⟩
  refine List.forall_mem_cons.mpr ⟨ok_aload_n F dX6_station_181 rfl (by decide), ?_⟩
  refine List.forall_mem_cons.mpr ⟨ok_getf F flX6_10 dX6_station_182 (by decide), ?_⟩
  refine List.forall_mem_cons.mpr ⟨ok_getf F flX6_194 dX6_station_185 (by decide), ?_⟩
  refine List.forall_mem_cons.mpr ⟨ok_getf F flX6_198 dX6_station_188 (by decide), ?_⟩
  refine List.forall_mem_cons.mpr ⟨ok_iret F G dX6_station_191 (by decide), ?_⟩
  refine List.forall_mem_cons.mpr ⟨ok_aload_n F dX6_station_192 rfl (by decide), ?_⟩
  refine List.forall_mem_cons.mpr ⟨ok_getf F flX6_10 dX6_station_193 (by decide), ?_⟩
  refine List.forall_mem_cons.mpr ⟨ok_getf F flX6_194 dX6_station_196 (by decide), ?_⟩
  refine List.forall_mem_cons.mpr ⟨ok_getf F flX6_203 dX6_station_199 (by decide), ?_⟩
  refine List.forall_mem_cons.mpr ⟨ok_iret F G dX6_station_202 (by decide), ?_⟩
  refine List.forall_mem_cons.mpr ⟨ok_aload_n F dX6_station_203 rfl (by decide), ?_⟩
  refine List.forall_mem_cons.mpr ⟨ok_getf F flX6_10 dX6_station_204 (by decide), ?_⟩
  refine List.forall_mem_cons.mpr ⟨ok_getf F flX6_206 dX6_station_207 (by decide), ?_⟩
  refine List.forall_mem_cons.mpr ⟨ok_iret F G dX6_station_210 (by decide), ?_⟩
  refine List.forall_mem_cons.mpr ⟨ok_aload_n F dX6_station_211 rfl (by decide), ?_⟩
  refine List.forall_mem_cons.mpr ⟨ok_getf F flX6_10 dX6_station_212 (by decide), ?_⟩
  refine List.forall_mem_cons.mpr ⟨ok_getf F flX6_209 dX6_station_215 (by decide), ?_⟩
  refine List.forall_mem_cons.mpr ⟨ok_iret F G dX6_station_218 (by decide), ?_⟩
  refine List.forall_mem_cons.mpr ⟨ok_aload_n F dX6_station_219 rfl (by decide), ?_⟩
  refine List.forall_mem_cons.mpr ⟨ok_getf F flX6_10 dX6_station_220 (by decide), ?_⟩
  refine List.forall_mem_cons.mpr ⟨ok_getf F flX6_212 dX6_station_223 (by decide), ?_⟩
  refine List.forall_mem_cons.mpr ⟨ok_iret F G dX6_station_226 (by decide), ?_⟩
  refine List.forall_mem_cons.mpr ⟨ok_aload_n F dX6_station_227 rfl (by decide), ?_⟩
  refine List.forall_mem_cons.mpr ⟨ok_getf F flX6_10 dX6_station_228 (by decide), ?_⟩
  refine List.forall_mem_cons.mpr ⟨ok_getf F flX6_215 dX6_station_231 (by decide), ?_⟩
  refine List.forall_mem_cons.mpr ⟨ok_iret F G dX6_station_234 (by decide), ?_⟩
  refine List.forall_mem_cons.mpr ⟨ok_ldc F (ix := 41) (wsHas_mem (l := [Jvm.Cond.constant RX6 41 (-1000001)]) (by decide +kernel) (by simp)) dX6_station_235 (by decide), ?_⟩
  refine List.forall_mem_cons.mpr ⟨ok_iret F G dX6_station_237 (by decide), ?_⟩
  exact fun _ h => absurd h List.not_mem_nil
set_option maxRecDepth 100000 in
theorem w_X6_station : (∀ (K : Kt FT) (n : Nat) (L : xL) (st : List Value) (S : FT), nx cod_X6_station cut_X6_station K (n + 1) 0 L st S = (O_iload 1 1) (nx cod_X6_station cut_X6_station K n) 0 L st S) ∧
  (∀ (K : Kt FT) (n : Nat) (L : xL) (st : List Value) (S : FT), nx cod_X6_station cut_X6_station K (n + 1) 1 L st S = (O_switch [(0, 76), (1, 84), (2, 92), (3, 100), (4, 108), (5, 138), (6, 149), (7, 165), (8, 173), (9, 181), (10, 192), (11, 203), (12, 211), (13, 219), (14, 227)] 235) (nx cod_X6_station cut_X6_station K n) 1 L st S) ∧
  (∀ (K : Kt FT) (n : Nat) (L : xL) (st : List Value) (S : FT), nx cod_X6_station cut_X6_station K (n + 1) 76 L st S = (O_aload 0 1) (nx cod_X6_station cut_X6_station K n) 76 L st S) ∧
  (∀ (K : Kt FT) (n : Nat) (L : xL) (st : List Value) (S : FT), nx cod_X6_station cut_X6_station K (n + 1) 77 L st S = (O_getf fpW 6 0) (nx cod_X6_station cut_X6_station K n) 77 L st S) ∧
  (∀ (K : Kt FT) (n : Nat) (L : xL) (st : List Value) (S : FT), nx cod_X6_station cut_X6_station K (n + 1) 80 L st S = (O_getf fpW 4 6) (nx cod_X6_station cut_X6_station K n) 80 L st S) ∧
  (∀ (K : Kt FT) (n : Nat) (L : xL) (st : List Value) (S : FT), nx cod_X6_station cut_X6_station K (n + 1) 83 L st S = (O_iret) (nx cod_X6_station cut_X6_station K n) 83 L st S) ∧
  (∀ (K : Kt FT) (n : Nat) (L : xL) (st : List Value) (S : FT), nx cod_X6_station cut_X6_station K (n + 1) 84 L st S = (O_aload 0 1) (nx cod_X6_station cut_X6_station K n) 84 L st S) ∧
  (∀ (K : Kt FT) (n : Nat) (L : xL) (st : List Value) (S : FT), nx cod_X6_station cut_X6_station K (n + 1) 85 L st S = (O_getf fpW 6 0) (nx cod_X6_station cut_X6_station K n) 85 L st S) ∧
  (∀ (K : Kt FT) (n : Nat) (L : xL) (st : List Value) (S : FT), nx cod_X6_station cut_X6_station K (n + 1) 88 L st S = (O_getf fpW 4 7) (nx cod_X6_station cut_X6_station K n) 88 L st S) ∧
  (∀ (K : Kt FT) (n : Nat) (L : xL) (st : List Value) (S : FT), nx cod_X6_station cut_X6_station K (n + 1) 91 L st S = (O_iret) (nx cod_X6_station cut_X6_station K n) 91 L st S) ∧
  (∀ (K : Kt FT) (n : Nat) (L : xL) (st : List Value) (S : FT), nx cod_X6_station cut_X6_station K (n + 1) 92 L st S = (O_aload 0 1) (nx cod_X6_station cut_X6_station K n) 92 L st S) ∧
  (∀ (K : Kt FT) (n : Nat) (L : xL) (st : List Value) (S : FT), nx cod_X6_station cut_X6_station K (n + 1) 93 L st S = (O_getf fpW 6 0) (nx cod_X6_station cut_X6_station K n) 93 L st S) ∧
  (∀ (K : Kt FT) (n : Nat) (L : xL) (st : List Value) (S : FT), nx cod_X6_station cut_X6_station K (n + 1) 96 L st S = (O_getf fpW 4 9) (nx cod_X6_station cut_X6_station K n) 96 L st S) ∧
  (∀ (K : Kt FT) (n : Nat) (L : xL) (st : List Value) (S : FT), nx cod_X6_station cut_X6_station K (n + 1) 99 L st S = (O_iret) (nx cod_X6_station cut_X6_station K n) 99 L st S) ∧
  (∀ (K : Kt FT) (n : Nat) (L : xL) (st : List Value) (S : FT), nx cod_X6_station cut_X6_station K (n + 1) 100 L st S = (O_aload 0 1) (nx cod_X6_station cut_X6_station K n) 100 L st S) ∧
  (∀ (K : Kt FT) (n : Nat) (L : xL) (st : List Value) (S : FT), nx cod_X6_station cut_X6_station K (n + 1) 101 L st S = (O_getf fpW 6 0) (nx cod_X6_station cut_X6_station K n) 101 L st S) ∧
  (∀ (K : Kt FT) (n : Nat) (L : xL) (st : List Value) (S : FT), nx cod_X6_station cut_X6_station K (n + 1) 104 L st S = (O_callV 0 1 (fun S : FT => S.now) (fun S u => S.sNow u) sp_X4_demand) (nx cod_X6_station cut_X6_station K n) 104 L st S) ∧
  (∀ (K : Kt FT) (n : Nat) (L : xL) (st : List Value) (S : FT), nx cod_X6_station cut_X6_station K (n + 1) 107 L st S = (O_iret) (nx cod_X6_station cut_X6_station K n) 107 L st S) ∧
  (∀ (K : Kt FT) (n : Nat) (L : xL) (st : List Value) (S : FT), nx cod_X6_station cut_X6_station K (n + 1) 108 L st S = (O_aload 0 1) (nx cod_X6_station cut_X6_station K n) 108 L st S) ∧
  (∀ (K : Kt FT) (n : Nat) (L : xL) (st : List Value) (S : FT), nx cod_X6_station cut_X6_station K (n + 1) 109 L st S = (O_getf fpW 6 0) (nx cod_X6_station cut_X6_station K n) 109 L st S) ∧
  (∀ (K : Kt FT) (n : Nat) (L : xL) (st : List Value) (S : FT), nx cod_X6_station cut_X6_station K (n + 1) 112 L st S = (O_getf fpW 4 1) (nx cod_X6_station cut_X6_station K n) 112 L st S) ∧
  (∀ (K : Kt FT) (n : Nat) (L : xL) (st : List Value) (S : FT), nx cod_X6_station cut_X6_station K (n + 1) 115 L st S = (O_getf fpW 3 9) (nx cod_X6_station cut_X6_station K n) 115 L st S) ∧
  (∀ (K : Kt FT) (n : Nat) (L : xL) (st : List Value) (S : FT), nx cod_X6_station cut_X6_station K (n + 1) 118 L st S = (O_int (-1) 1) (nx cod_X6_station cut_X6_station K n) 118 L st S) ∧
  (∀ (K : Kt FT) (n : Nat) (L : xL) (st : List Value) (S : FT), nx cod_X6_station cut_X6_station K (n + 1) 119 L st S = (O_icmp_ne 127) (nx cod_X6_station cut_X6_station K n) 119 L st S) ∧
  (∀ (K : Kt FT) (n : Nat) (L : xL) (st : List Value) (S : FT), nx cod_X6_station cut_X6_station K (n + 1) 122 L st S = (O_int (-1000004) 2) (nx cod_X6_station cut_X6_station K n) 122 L st S) ∧
  (∀ (K : Kt FT) (n : Nat) (L : xL) (st : List Value) (S : FT), nx cod_X6_station cut_X6_station K (n + 1) 124 L st S = (O_goto 137) (nx cod_X6_station cut_X6_station K n) 124 L st S) ∧
  (∀ (K : Kt FT) (n : Nat) (L : xL) (st : List Value) (S : FT), nx cod_X6_station cut_X6_station K (n + 1) 127 L st S = (O_aload 0 1) (nx cod_X6_station cut_X6_station K n) 127 L st S) ∧
  (∀ (K : Kt FT) (n : Nat) (L : xL) (st : List Value) (S : FT), nx cod_X6_station cut_X6_station K (n + 1) 128 L st S = (O_getf fpW 6 0) (nx cod_X6_station cut_X6_station K n) 128 L st S) ∧
  (∀ (K : Kt FT) (n : Nat) (L : xL) (st : List Value) (S : FT), nx cod_X6_station cut_X6_station K (n + 1) 131 L st S = (O_getf fpW 4 1) (nx cod_X6_station cut_X6_station K n) 131 L st S) ∧
  (∀ (K : Kt FT) (n : Nat) (L : xL) (st : List Value) (S : FT), nx cod_X6_station cut_X6_station K (n + 1) 134 L st S = (O_getf fpW 3 9) (nx cod_X6_station cut_X6_station K n) 134 L st S) ∧
  (∀ (K : Kt FT) (n : Nat) (L : xL) (st : List Value) (S : FT), nx cod_X6_station cut_X6_station K (n + 1) 137 L st S = (O_iret) (nx cod_X6_station cut_X6_station K n) 137 L st S) ∧
  (∀ (K : Kt FT) (n : Nat) (L : xL) (st : List Value) (S : FT), nx cod_X6_station cut_X6_station K (n + 1) 138 L st S = (O_aload 0 1) (nx cod_X6_station cut_X6_station K n) 138 L st S) ∧
  (∀ (K : Kt FT) (n : Nat) (L : xL) (st : List Value) (S : FT), nx cod_X6_station cut_X6_station K (n + 1) 139 L st S = (O_getf fpW 6 0) (nx cod_X6_station cut_X6_station K n) 139 L st S) ∧
  (∀ (K : Kt FT) (n : Nat) (L : xL) (st : List Value) (S : FT), nx cod_X6_station cut_X6_station K (n + 1) 142 L st S = (O_getf fpW 4 1) (nx cod_X6_station cut_X6_station K n) 142 L st S) ∧
  (∀ (K : Kt FT) (n : Nat) (L : xL) (st : List Value) (S : FT), nx cod_X6_station cut_X6_station K (n + 1) 145 L st S = (O_callV 0 3 (fun S : FT => S.now.P) (fun S u => S.sNow (S.now.sP u)) sp_X3_running) (nx cod_X6_station cut_X6_station K n) 145 L st S) ∧
  (∀ (K : Kt FT) (n : Nat) (L : xL) (st : List Value) (S : FT), nx cod_X6_station cut_X6_station K (n + 1) 148 L st S = (O_iret) (nx cod_X6_station cut_X6_station K n) 148 L st S) ∧
  (∀ (K : Kt FT) (n : Nat) (L : xL) (st : List Value) (S : FT), nx cod_X6_station cut_X6_station K (n + 1) 149 L st S = (O_aload 0 1) (nx cod_X6_station cut_X6_station K n) 149 L st S) ∧
  (∀ (K : Kt FT) (n : Nat) (L : xL) (st : List Value) (S : FT), nx cod_X6_station cut_X6_station K (n + 1) 150 L st S = (O_getf fpW 6 0) (nx cod_X6_station cut_X6_station K n) 150 L st S) ∧
  (∀ (K : Kt FT) (n : Nat) (L : xL) (st : List Value) (S : FT), nx cod_X6_station cut_X6_station K (n + 1) 153 L st S = (O_getf fpW 4 11) (nx cod_X6_station cut_X6_station K n) 153 L st S) ∧
  (∀ (K : Kt FT) (n : Nat) (L : xL) (st : List Value) (S : FT), nx cod_X6_station cut_X6_station K (n + 1) 156 L st S = (O_if_eq 163) (nx cod_X6_station cut_X6_station K n) 156 L st S) ∧
  (∀ (K : Kt FT) (n : Nat) (L : xL) (st : List Value) (S : FT), nx cod_X6_station cut_X6_station K (n + 1) 159 L st S = (O_int 1 1) (nx cod_X6_station cut_X6_station K n) 159 L st S) ∧
  (∀ (K : Kt FT) (n : Nat) (L : xL) (st : List Value) (S : FT), nx cod_X6_station cut_X6_station K (n + 1) 160 L st S = (O_goto 164) (nx cod_X6_station cut_X6_station K n) 160 L st S) ∧
  (∀ (K : Kt FT) (n : Nat) (L : xL) (st : List Value) (S : FT), nx cod_X6_station cut_X6_station K (n + 1) 163 L st S = (O_int 0 1) (nx cod_X6_station cut_X6_station K n) 163 L st S) ∧
  (∀ (K : Kt FT) (n : Nat) (L : xL) (st : List Value) (S : FT), nx cod_X6_station cut_X6_station K (n + 1) 164 L st S = (O_iret) (nx cod_X6_station cut_X6_station K n) 164 L st S) ∧
  (∀ (K : Kt FT) (n : Nat) (L : xL) (st : List Value) (S : FT), nx cod_X6_station cut_X6_station K (n + 1) 165 L st S = (O_aload 0 1) (nx cod_X6_station cut_X6_station K n) 165 L st S) ∧
  (∀ (K : Kt FT) (n : Nat) (L : xL) (st : List Value) (S : FT), nx cod_X6_station cut_X6_station K (n + 1) 166 L st S = (O_getf fpW 6 0) (nx cod_X6_station cut_X6_station K n) 166 L st S) ∧
  (∀ (K : Kt FT) (n : Nat) (L : xL) (st : List Value) (S : FT), nx cod_X6_station cut_X6_station K (n + 1) 169 L st S = (O_getf fpW 4 13) (nx cod_X6_station cut_X6_station K n) 169 L st S) ∧
  (∀ (K : Kt FT) (n : Nat) (L : xL) (st : List Value) (S : FT), nx cod_X6_station cut_X6_station K (n + 1) 172 L st S = (O_iret) (nx cod_X6_station cut_X6_station K n) 172 L st S) ∧
  (∀ (K : Kt FT) (n : Nat) (L : xL) (st : List Value) (S : FT), nx cod_X6_station cut_X6_station K (n + 1) 173 L st S = (O_aload 0 1) (nx cod_X6_station cut_X6_station K n) 173 L st S) ∧
  (∀ (K : Kt FT) (n : Nat) (L : xL) (st : List Value) (S : FT), nx cod_X6_station cut_X6_station K (n + 1) 174 L st S = (O_getf fpW 6 0) (nx cod_X6_station cut_X6_station K n) 174 L st S) ∧
  (∀ (K : Kt FT) (n : Nat) (L : xL) (st : List Value) (S : FT), nx cod_X6_station cut_X6_station K (n + 1) 177 L st S = (O_getf fpW 4 12) (nx cod_X6_station cut_X6_station K n) 177 L st S) ∧
  (∀ (K : Kt FT) (n : Nat) (L : xL) (st : List Value) (S : FT), nx cod_X6_station cut_X6_station K (n + 1) 180 L st S = (O_iret) (nx cod_X6_station cut_X6_station K n) 180 L st S) ∧
  (∀ (K : Kt FT) (n : Nat) (L : xL) (st : List Value) (S : FT), nx cod_X6_station cut_X6_station K (n + 1) 181 L st S = (O_aload 0 1) (nx cod_X6_station cut_X6_station K n) 181 L st S) ∧
  (∀ (K : Kt FT) (n : Nat) (L : xL) (st : List Value) (S : FT), nx cod_X6_station cut_X6_station K (n + 1) 182 L st S = (O_getf fpW 6 0) (nx cod_X6_station cut_X6_station K n) 182 L st S) ∧
  (∀ (K : Kt FT) (n : Nat) (L : xL) (st : List Value) (S : FT), nx cod_X6_station cut_X6_station K (n + 1) 185 L st S = (O_getf fpW 4 3) (nx cod_X6_station cut_X6_station K n) 185 L st S) ∧
  (∀ (K : Kt FT) (n : Nat) (L : xL) (st : List Value) (S : FT), nx cod_X6_station cut_X6_station K (n + 1) 188 L st S = (O_getf fpW 1 2) (nx cod_X6_station cut_X6_station K n) 188 L st S) ∧
  (∀ (K : Kt FT) (n : Nat) (L : xL) (st : List Value) (S : FT), nx cod_X6_station cut_X6_station K (n + 1) 191 L st S = (O_iret) (nx cod_X6_station cut_X6_station K n) 191 L st S) ∧
  (∀ (K : Kt FT) (n : Nat) (L : xL) (st : List Value) (S : FT), nx cod_X6_station cut_X6_station K (n + 1) 192 L st S = (O_aload 0 1) (nx cod_X6_station cut_X6_station K n) 192 L st S) ∧
  (∀ (K : Kt FT) (n : Nat) (L : xL) (st : List Value) (S : FT), nx cod_X6_station cut_X6_station K (n + 1) 193 L st S = (O_getf fpW 6 0) (nx cod_X6_station cut_X6_station K n) 193 L st S) ∧
  (∀ (K : Kt FT) (n : Nat) (L : xL) (st : List Value) (S : FT), nx cod_X6_station cut_X6_station K (n + 1) 196 L st S = (O_getf fpW 4 3) (nx cod_X6_station cut_X6_station K n) 196 L st S) ∧
  (∀ (K : Kt FT) (n : Nat) (L : xL) (st : List Value) (S : FT), nx cod_X6_station cut_X6_station K (n + 1) 199 L st S = (O_getf fpW 1 3) (nx cod_X6_station cut_X6_station K n) 199 L st S) ∧
  (∀ (K : Kt FT) (n : Nat) (L : xL) (st : List Value) (S : FT), nx cod_X6_station cut_X6_station K (n + 1) 202 L st S = (O_iret) (nx cod_X6_station cut_X6_station K n) 202 L st S) ∧
  (∀ (K : Kt FT) (n : Nat) (L : xL) (st : List Value) (S : FT), nx cod_X6_station cut_X6_station K (n + 1) 203 L st S = (O_aload 0 1) (nx cod_X6_station cut_X6_station K n) 203 L st S) ∧
  (∀ (K : Kt FT) (n : Nat) (L : xL) (st : List Value) (S : FT), nx cod_X6_station cut_X6_station K (n + 1) 204 L st S = (O_getf fpW 6 0) (nx cod_X6_station cut_X6_station K n) 204 L st S) ∧
  (∀ (K : Kt FT) (n : Nat) (L : xL) (st : List Value) (S : FT), nx cod_X6_station cut_X6_station K (n + 1) 207 L st S = (O_getf fpW 4 14) (nx cod_X6_station cut_X6_station K n) 207 L st S) ∧
  (∀ (K : Kt FT) (n : Nat) (L : xL) (st : List Value) (S : FT), nx cod_X6_station cut_X6_station K (n + 1) 210 L st S = (O_iret) (nx cod_X6_station cut_X6_station K n) 210 L st S) ∧
  (∀ (K : Kt FT) (n : Nat) (L : xL) (st : List Value) (S : FT), nx cod_X6_station cut_X6_station K (n + 1) 211 L st S = (O_aload 0 1) (nx cod_X6_station cut_X6_station K n) 211 L st S) ∧
  (∀ (K : Kt FT) (n : Nat) (L : xL) (st : List Value) (S : FT), nx cod_X6_station cut_X6_station K (n + 1) 212 L st S = (O_getf fpW 6 0) (nx cod_X6_station cut_X6_station K n) 212 L st S) ∧
  (∀ (K : Kt FT) (n : Nat) (L : xL) (st : List Value) (S : FT), nx cod_X6_station cut_X6_station K (n + 1) 215 L st S = (O_getf fpW 4 15) (nx cod_X6_station cut_X6_station K n) 215 L st S) ∧
  (∀ (K : Kt FT) (n : Nat) (L : xL) (st : List Value) (S : FT), nx cod_X6_station cut_X6_station K (n + 1) 218 L st S = (O_iret) (nx cod_X6_station cut_X6_station K n) 218 L st S) ∧
  (∀ (K : Kt FT) (n : Nat) (L : xL) (st : List Value) (S : FT), nx cod_X6_station cut_X6_station K (n + 1) 219 L st S = (O_aload 0 1) (nx cod_X6_station cut_X6_station K n) 219 L st S) ∧
  (∀ (K : Kt FT) (n : Nat) (L : xL) (st : List Value) (S : FT), nx cod_X6_station cut_X6_station K (n + 1) 220 L st S = (O_getf fpW 6 0) (nx cod_X6_station cut_X6_station K n) 220 L st S) ∧
  (∀ (K : Kt FT) (n : Nat) (L : xL) (st : List Value) (S : FT), nx cod_X6_station cut_X6_station K (n + 1) 223 L st S = (O_getf fpW 4 16) (nx cod_X6_station cut_X6_station K n) 223 L st S) ∧
  (∀ (K : Kt FT) (n : Nat) (L : xL) (st : List Value) (S : FT), nx cod_X6_station cut_X6_station K (n + 1) 226 L st S = (O_iret) (nx cod_X6_station cut_X6_station K n) 226 L st S) ∧
  (∀ (K : Kt FT) (n : Nat) (L : xL) (st : List Value) (S : FT), nx cod_X6_station cut_X6_station K (n + 1) 227 L st S = (O_aload 0 1) (nx cod_X6_station cut_X6_station K n) 227 L st S) ∧
  (∀ (K : Kt FT) (n : Nat) (L : xL) (st : List Value) (S : FT), nx cod_X6_station cut_X6_station K (n + 1) 228 L st S = (O_getf fpW 6 0) (nx cod_X6_station cut_X6_station K n) 228 L st S) ∧
  (∀ (K : Kt FT) (n : Nat) (L : xL) (st : List Value) (S : FT), nx cod_X6_station cut_X6_station K (n + 1) 231 L st S = (O_getf fpW 4 10) (nx cod_X6_station cut_X6_station K n) 231 L st S) ∧
  (∀ (K : Kt FT) (n : Nat) (L : xL) (st : List Value) (S : FT), nx cod_X6_station cut_X6_station K (n + 1) 234 L st S = (O_iret) (nx cod_X6_station cut_X6_station K n) 234 L st S) ∧
  (∀ (K : Kt FT) (n : Nat) (L : xL) (st : List Value) (S : FT), nx cod_X6_station cut_X6_station K (n + 1) 235 L st S = (O_int (-1000001) 2) (nx cod_X6_station cut_X6_station K n) 235 L st S) ∧
  (∀ (K : Kt FT) (n : Nat) (L : xL) (st : List Value) (S : FT), nx cod_X6_station cut_X6_station K (n + 1) 237 L st S = (O_iret) (nx cod_X6_station cut_X6_station K n) 237 L st S) ∧
  (∀ (K : Kt FT) (n : Nat) (L : xL) (st : List Value) (S : FT), nx cod_X6_station cut_X6_station K (n + 1) 100000 L st S = K 100000 L st S) := by
  repeat' apply And.intro
  all_goals (intros; rfl)
set_option maxRecDepth 100000 in
theorem mk_X6_station {P P' : FT} {r : Option Value} {p0 : Int32} (body : ∀ E : En, CodOk E fpW cod_X6_station → Gd E fpW 100000 [] r.toList P' → Gd E fpW 0 [some (.ref 0), some (.int p0)] [] P) : Con yX6_station cX6_station 2 (some .int) 3 fpW [.ref 0, .int p0] P r P' :=
  Con.of (by decide) rfl rfl (Nat.le_of_ble_eq_true rfl) (fun E F G hr => body E (okc_X6_station F G) hr)
set_option maxRecDepth 10000 in
theorem con_X6_station (S : FT) (w : Int32) (hp : S.good) : Con yX6_station cX6_station 2 (some .int) 3 fpW [.ref 0, .int w] S (some (.int (if w = 0 then S.now.pressure else if w = 1 then S.now.level else if w = 2 then S.now.supply else if w = 3 then S.now.demand else if w = 4 then (if S.now.P.vrb = -1 then -1000004 else S.now.P.vrb) else if w = 5 then S.now.P.running else if w = 6 then (if S.now.dry = 0 then 0 else 1) else if w = 7 then S.now.trips else if w = 8 then S.now.dryMinutes else if w = 9 then S.now.N.flow else if w = 10 then S.now.N.alarms else if w = 11 then S.now.toStart else if w = 12 then S.now.toStop else if w = 13 then S.now.toSleep else if w = 14 then S.now.allSupplied else -1000001))) (S) := by
  refine mk_X6_station (fun E C hr => ?_)
  have h3 := hp.2.1.1.1
  have h4 := hp.2.1.1.2.1
  clear hp
  (refine nx_ok C (cuts := cut_X6_station) 1000 _ _ _ _ ?_; simp only [w_X6_station, ops_eq, xst_eq, call_eq, oK_eq, Option.toList_some, Option.toList_none, List.cons_append, List.nil_append, List.length_cons, List.length_nil, true_and, and_true, Nat.reduceAdd, fpW_F, fpW_A, fpW_S, fpW_P, FT_id, ST_id, FT_gs, ST_gs, PT_gs, ZT_gs, NT_gs, ET_gs, OT_gs, se_X4_demand, se_X3_running, bI_eq, h3, h4])
  ((repeat' (with_reducible first | apply And.intro | intro _)) <;> (try subst_vars) <;> simp_all [FT_id, ST_id, FT_gs, ST_gs, PT_gs, ZT_gs, NT_gs, ET_gs, OT_gs])
def sp_X6_station : Sp FT := fun av S K => match av with
  | [.ref 0, .int w] => (S.good) ∧ K (some (.int (if w = 0 then S.now.pressure else if w = 1 then S.now.level else if w = 2 then S.now.supply else if w = 3 then S.now.demand else if w = 4 then (if S.now.P.vrb = -1 then -1000004 else S.now.P.vrb) else if w = 5 then S.now.P.running else if w = 6 then (if S.now.dry = 0 then 0 else 1) else if w = 7 then S.now.trips else if w = 8 then S.now.dryMinutes else if w = 9 then S.now.N.flow else if w = 10 then S.now.N.alarms else if w = 11 then S.now.toStart else if w = 12 then S.now.toStop else if w = 13 then S.now.toSleep else if w = 14 then S.now.allSupplied else -1000001))) (S)
  | _ => False
theorem se_X6_station (w : Int32) (S : FT) (K : Option Value → FT → Prop) : sp_X6_station [.ref 0, .int w] S K = ((S.good) ∧ K (some (.int (if w = 0 then S.now.pressure else if w = 1 then S.now.level else if w = 2 then S.now.supply else if w = 3 then S.now.demand else if w = 4 then (if S.now.P.vrb = -1 then -1000004 else S.now.P.vrb) else if w = 5 then S.now.P.running else if w = 6 then (if S.now.dry = 0 then 0 else 1) else if w = 7 then S.now.trips else if w = 8 then S.now.dryMinutes else if w = 9 then S.now.N.flow else if w = 10 then S.now.N.alarms else if w = 11 then S.now.toStart else if w = 12 then S.now.toStop else if w = 13 then S.now.toSleep else if w = 14 then S.now.allSupplied else -1000001))) (S)) := rfl
theorem spok_X6_station : SpOk yX6_station cX6_station 2 (some .int) 3 fpW sp_X6_station := by
  intro av S K h
  unfold sp_X6_station at h
  split at h
  · rename_i w; exact ⟨some (.int (if w = 0 then S.now.pressure else if w = 1 then S.now.level else if w = 2 then S.now.supply else if w = 3 then S.now.demand else if w = 4 then (if S.now.P.vrb = -1 then -1000004 else S.now.P.vrb) else if w = 5 then S.now.P.running else if w = 6 then (if S.now.dry = 0 then 0 else 1) else if w = 7 then S.now.trips else if w = 8 then S.now.dryMinutes else if w = 9 then S.now.N.flow else if w = 10 then S.now.N.alarms else if w = 11 then S.now.toStart else if w = 12 then S.now.toStop else if w = 13 then S.now.toSleep else if w = 14 then S.now.allSupplied else -1000001)), S, trivial, con_X6_station S w h.1, h.2⟩
  · exact h.elim
theorem NT.has_in {S : NT} {p : Int32} (hs : S.ok) (h : S.has p = true) : vp_in p 7 := by
  simp only [NT.has, decide_eq_true_eq] at h
  exact isN_vp hs h.1 h.2
theorem ET.rowOf_in {S : ET} {i : Int32} (h : ¬ S.rowOf i = -1) : vp_in (S.rowOf i) 12 := by
  unfold ET.rowOf at h ⊢
  split at h
  · rename_i hc
    rw [if_pos hc]
    refine rem_in ?_
    unfold ET.kept at hc
    have h1 : i < S.all := by
      have := hc.2
      split at this
      · exact this
      · rename_i h2
        rw [Int32.lt_iff_toInt_lt] at *
        have e : (12 : Int32).toInt = 12 := rfl
        omega
    have h0 := hc.1
    rw [Int32.lt_iff_toInt_lt] at *
    have ez : (0 : Int32).toInt = 0 := rfl
    have e1 : (1 : Int32).toInt = 1 := rfl
    have hb := S.all.toInt_lt
    have hl := i.le_toInt
    have e2 : (S.all - 1).toInt = S.all.toInt - 1 := by
      rw [Int32.toInt_sub, e1]
      exact Int.bmod_eq_of_le (by omega) (by omega)
    have e3 : (S.all - 1 - i).toInt = S.all.toInt - 1 - i.toInt := by
      rw [Int32.toInt_sub, e2]
      exact Int.bmod_eq_of_le (by omega) (by omega)
    omega
  · exact absurd rfl h
def FT.okEv (i w : Int32) : Bool := decide (¬ i < 0) && inR w 0 2
def ET.of (S : ET) (r : Nat) (w : Int32) : Int32 := if w = 0 then S.kinds r else if w = 1 then S.times r else if S.pumps r = -1 then -1000004 else S.pumps r
theorem flX6_177 : fldOk RX6 177 4 4 = true := by decide +kernel
theorem flX6_225 : fldOk RX6 225 0 0 = true := by decide +kernel
theorem flX6_226 : fldOk RX6 226 0 1 = true := by decide +kernel
theorem flX6_229 : fldOk RX6 229 0 2 = true := by decide +kernel
def cod_X6_eventAt : List (Nat × Op FT) := [(0, O_iload 1 1), (1, O_if_lt 13), (4, O_iload 2 1), (5, O_int 0 1), (6, O_int 2 1), (7, O_callS 3 sp_X6_within), (10, O_if_ne 16), (13, O_int (-1000001) 2), (15, O_iret), (16, O_aload 0 1), (17, O_getf fpW 6 0), (20, O_getf fpW 4 4), (23, O_astore 3 1), (24, O_aload 3 1), (25, O_iload 1 1), (26, O_callV 1 20 (fun S : FT => S.now.E) (fun S u => S.sNow (S.now.sE u)) sp_X0_rowOf), (29, O_istore 4 2), (31, O_iload 4 2), (33, O_int (-1) 1), (34, O_icmp_ne 40), (37, O_int (-1000004) 2), (39, O_iret), (40, O_iload 2 1), (41, O_if_ne 52), (44, O_aload 3 1), (45, O_getf fpW 0 0), (48, O_iload 4 2), (50, O_ald fpW 0), (51, O_iret), (52, O_iload 2 1), (53, O_int 1 1), (54, O_icmp_ne 65), (57, O_aload 3 1), (58, O_getf fpW 0 1), (61, O_iload 4 2), (63, O_ald fpW 0), (64, O_iret), (65, O_aload 3 1), (66, O_getf fpW 0 2), (69, O_iload 4 2), (71, O_ald fpW 0), (72, O_int (-1) 1), (73, O_icmp_ne 81), (76, O_int (-1000004) 2), (78, O_goto 88), (81, O_aload 3 1), (82, O_getf fpW 0 2), (85, O_iload 4 2), (87, O_ald fpW 0), (88, O_iret)]
abbrev cut_X6_eventAt : List Nat := []
set_option maxRecDepth 100000 in
theorem okc_X6_eventAt {E : En} (F : Fx E RX6 cX6_eventAt 5 3) (G : Fr E (some .int)) : CodOk E fpW cod_X6_eventAt := by
  unfold CodOk cod_X6_eventAt
  refine List.forall_mem_cons.mpr ⟨ok_iload_n F dX6_eventAt_0 rfl (by decide), ?_⟩
  refine List.forall_mem_cons.mpr ⟨ok_if_lt F dX6_eventAt_1 (by decide) (by decide) (by decide), ?_⟩
  refine List.forall_mem_cons.mpr ⟨ok_iload_n F dX6_eventAt_4 rfl (by decide), ?_⟩
  refine List.forall_mem_cons.mpr ⟨ok_iconst F dX6_eventAt_5 (by decide) (by decide), ?_⟩
  refine List.forall_mem_cons.mpr ⟨ok_iconst F dX6_eventAt_6 (by decide) (by decide), ?_⟩
  refine List.forall_mem_cons.mpr ⟨ok_callS F spok_X6_within (by decide +kernel) rfl (by decide) dX6_eventAt_7 (by decide), ?_⟩
  refine List.forall_mem_cons.mpr ⟨ok_if_ne F dX6_eventAt_10 (by decide) (by decide) (by decide), ?_⟩
  refine List.forall_mem_cons.mpr ⟨ok_ldc F (ix := 41) (wsHas_mem (l := [Jvm.Cond.constant RX6 41 (-1000001)]) (by decide +kernel) (by simp)) dX6_eventAt_13 (by decide), ?_⟩
  refine List.forall_mem_cons.mpr ⟨ok_iret F G dX6_eventAt_15 (by decide), ?_⟩
  refine List.forall_mem_cons.mpr ⟨ok_aload_n F dX6_eventAt_16 rfl (by decide), ?_⟩
  refine List.forall_mem_cons.mpr ⟨ok_getf F flX6_10 dX6_eventAt_17 (by decide), ?_⟩
  refine List.forall_mem_cons.mpr ⟨ok_getf F flX6_177 dX6_eventAt_20 (by decide), ?_⟩
  refine List.forall_mem_cons.mpr ⟨ok_astore_n F dX6_eventAt_23 rfl (by decide) (by decide), ?_⟩
  refine List.forall_mem_cons.mpr ⟨ok_aload_n F dX6_eventAt_24 rfl (by decide), ?_⟩
  refine List.forall_mem_cons.mpr ⟨ok_iload_n F dX6_eventAt_25 rfl (by decide), ?_⟩
  refine List.forall_mem_cons.mpr ⟨ok_callV F spok_X0_rowOf ln_fp_now_E rcv_eW (by decide +kernel) (by decide) dX6_eventAt_26 (by decide), ?_⟩
  refine List.forall_mem_cons.mpr ⟨ok_istore F dX6_eventAt_29 (by decide) (by decide), ?_⟩
  refine List.forall_mem_cons.mpr ⟨ok_iload F dX6_eventAt_31 (by decide), ?_⟩
  refine List.forall_mem_cons.mpr ⟨ok_iconst F dX6_eventAt_33 (by decide) (by decide), ?_⟩
  refine List.forall_mem_cons.mpr ⟨ok_icmp_ne F dX6_eventAt_34 (by decide) (by decide) (by decide), ?_⟩
  refine List.forall_mem_cons.mpr ⟨ok_ldc F (ix := 110) (wsHas_mem (l := [Jvm.Cond.constant RX6 110 (-1000004)]) (by decide +kernel) (by simp)) dX6_eventAt_37 (by decide), ?_⟩
  refine List.forall_mem_cons.mpr ⟨ok_iret F G dX6_eventAt_39 (by decide), ?_⟩
  refine List.forall_mem_cons.mpr ⟨ok_iload_n F dX6_eventAt_40 rfl (by decide), ?_⟩
  refine List.forall_mem_cons.mpr ⟨ok_if_ne F dX6_eventAt_41 (by decide) (by decide) (by decide), ?_⟩
  refine List.forall_mem_cons.mpr ⟨ok_aload_n F dX6_eventAt_44 rfl (by decide), ?_⟩
  refine List.forall_mem_cons.mpr ⟨ok_getf F flX6_225 dX6_eventAt_45 (by decide), ?_⟩
  refine List.forall_mem_cons.mpr ⟨ok_iload F dX6_eventAt_48 (by decide), ?_⟩
  refine List.forall_mem_cons.mpr ⟨ok_iald F dX6_eventAt_50 (by decide), ?_⟩
  refine List.forall_mem_cons.mpr ⟨ok_iret F G dX6_eventAt_51 (by decide), ?_⟩
  refine List.forall_mem_cons.mpr ⟨ok_iload_n F dX6_eventAt_52 rfl (by decide), ?_⟩
  refine List.forall_mem_cons.mpr ⟨ok_iconst F dX6_eventAt_53 (by decide) (by decide), ?_⟩
  refine List.forall_mem_cons.mpr ⟨ok_icmp_ne F dX6_eventAt_54 (by decide) (by decide) (by decide), ?_⟩
  refine List.forall_mem_cons.mpr ⟨ok_aload_n F dX6_eventAt_57 rfl (by decide), ?_⟩
  refine List.forall_mem_cons.mpr ⟨ok_getf F flX6_226 dX6_eventAt_58 (by decide), ?_⟩
  refine List.forall_mem_cons.mpr ⟨ok_iload F dX6_eventAt_61 (by decide), ?_⟩
  refine List.forall_mem_cons.mpr ⟨ok_iald F dX6_eventAt_63 (by decide), ?_⟩
  refine List.forall_mem_cons.mpr ⟨ok_iret F G dX6_eventAt_64 (by decide), ?_⟩
  refine List.forall_mem_cons.mpr ⟨ok_aload_n F dX6_eventAt_65 rfl (by decide), ?_⟩
  refine List.forall_mem_cons.mpr ⟨ok_getf F flX6_229 dX6_eventAt_66 (by decide), ?_⟩
  refine List.forall_mem_cons.mpr ⟨ok_iload F dX6_eventAt_69 (by decide), ?_⟩
  refine List.forall_mem_cons.mpr ⟨ok_iald F dX6_eventAt_71 (by decide), ?_⟩
  refine List.forall_mem_cons.mpr ⟨ok_iconst F dX6_eventAt_72 (by decide) (by decide), ?_⟩
  refine List.forall_mem_cons.mpr ⟨ok_icmp_ne F dX6_eventAt_73 (by decide) (by decide) (by decide), ?_⟩
  refine List.forall_mem_cons.mpr ⟨ok_ldc F (ix := 110) (wsHas_mem (l := [Jvm.Cond.constant RX6 110 (-1000004)]) (by decide +kernel) (by simp)) dX6_eventAt_76 (by decide), ?_⟩
  refine List.forall_mem_cons.mpr ⟨ok_goto F dX6_eventAt_78 (by decide) (by decide) (by decide), ?_⟩
  refine List.forall_mem_cons.mpr ⟨ok_aload_n F dX6_eventAt_81 rfl (by decide), ?_⟩
  refine List.forall_mem_cons.mpr ⟨ok_getf F flX6_229 dX6_eventAt_82 (by decide), ?_⟩
  refine List.forall_mem_cons.mpr ⟨ok_iload F dX6_eventAt_85 (by decide), ?_⟩
  refine List.forall_mem_cons.mpr ⟨ok_iald F dX6_eventAt_87 (by decide), ?_⟩
  refine List.forall_mem_cons.mpr ⟨ok_iret F G dX6_eventAt_88 (by decide), ?_⟩
  exact fun _ h => absurd h List.not_mem_nil
set_option maxRecDepth 100000 in
theorem w_X6_eventAt : (∀ (K : Kt FT) (n : Nat) (L : xL) (st : List Value) (S : FT), nx cod_X6_eventAt cut_X6_eventAt K (n + 1) 0 L st S = (O_iload 1 1) (nx cod_X6_eventAt cut_X6_eventAt K n) 0 L st S) ∧
  (∀ (K : Kt FT) (n : Nat) (L : xL) (st : List Value) (S : FT), nx cod_X6_eventAt cut_X6_eventAt K (n + 1) 1 L st S = (O_if_lt 13) (nx cod_X6_eventAt cut_X6_eventAt K n) 1 L st S) ∧
  (∀ (K : Kt FT) (n : Nat) (L : xL) (st : List Value) (S : FT), nx cod_X6_eventAt cut_X6_eventAt K (n + 1) 4 L st S = (O_iload 2 1) (nx cod_X6_eventAt cut_X6_eventAt K n) 4 L st S) ∧
  (∀ (K : Kt FT) (n : Nat) (L : xL) (st : List Value) (S : FT), nx cod_X6_eventAt cut_X6_eventAt K (n + 1) 5 L st S = (O_int 0 1) (nx cod_X6_eventAt cut_X6_eventAt K n) 5 L st S) ∧
  (∀ (K : Kt FT) (n : Nat) (L : xL) (st : List Value) (S : FT), nx cod_X6_eventAt cut_X6_eventAt K (n + 1) 6 L st S = (O_int 2 1) (nx cod_X6_eventAt cut_X6_eventAt K n) 6 L st S) ∧
  (∀ (K : Kt FT) (n : Nat) (L : xL) (st : List Value) (S : FT), nx cod_X6_eventAt cut_X6_eventAt K (n + 1) 7 L st S = (O_callS 3 sp_X6_within) (nx cod_X6_eventAt cut_X6_eventAt K n) 7 L st S) ∧
  (∀ (K : Kt FT) (n : Nat) (L : xL) (st : List Value) (S : FT), nx cod_X6_eventAt cut_X6_eventAt K (n + 1) 10 L st S = (O_if_ne 16) (nx cod_X6_eventAt cut_X6_eventAt K n) 10 L st S) ∧
  (∀ (K : Kt FT) (n : Nat) (L : xL) (st : List Value) (S : FT), nx cod_X6_eventAt cut_X6_eventAt K (n + 1) 13 L st S = (O_int (-1000001) 2) (nx cod_X6_eventAt cut_X6_eventAt K n) 13 L st S) ∧
  (∀ (K : Kt FT) (n : Nat) (L : xL) (st : List Value) (S : FT), nx cod_X6_eventAt cut_X6_eventAt K (n + 1) 15 L st S = (O_iret) (nx cod_X6_eventAt cut_X6_eventAt K n) 15 L st S) ∧
  (∀ (K : Kt FT) (n : Nat) (L : xL) (st : List Value) (S : FT), nx cod_X6_eventAt cut_X6_eventAt K (n + 1) 16 L st S = (O_aload 0 1) (nx cod_X6_eventAt cut_X6_eventAt K n) 16 L st S) ∧
  (∀ (K : Kt FT) (n : Nat) (L : xL) (st : List Value) (S : FT), nx cod_X6_eventAt cut_X6_eventAt K (n + 1) 17 L st S = (O_getf fpW 6 0) (nx cod_X6_eventAt cut_X6_eventAt K n) 17 L st S) ∧
  (∀ (K : Kt FT) (n : Nat) (L : xL) (st : List Value) (S : FT), nx cod_X6_eventAt cut_X6_eventAt K (n + 1) 20 L st S = (O_getf fpW 4 4) (nx cod_X6_eventAt cut_X6_eventAt K n) 20 L st S) ∧
  (∀ (K : Kt FT) (n : Nat) (L : xL) (st : List Value) (S : FT), nx cod_X6_eventAt cut_X6_eventAt K (n + 1) 23 L st S = (O_astore 3 1) (nx cod_X6_eventAt cut_X6_eventAt K n) 23 L st S) ∧
  (∀ (K : Kt FT) (n : Nat) (L : xL) (st : List Value) (S : FT), nx cod_X6_eventAt cut_X6_eventAt K (n + 1) 24 L st S = (O_aload 3 1) (nx cod_X6_eventAt cut_X6_eventAt K n) 24 L st S) ∧
  (∀ (K : Kt FT) (n : Nat) (L : xL) (st : List Value) (S : FT), nx cod_X6_eventAt cut_X6_eventAt K (n + 1) 25 L st S = (O_iload 1 1) (nx cod_X6_eventAt cut_X6_eventAt K n) 25 L st S) ∧
  (∀ (K : Kt FT) (n : Nat) (L : xL) (st : List Value) (S : FT), nx cod_X6_eventAt cut_X6_eventAt K (n + 1) 26 L st S = (O_callV 1 20 (fun S : FT => S.now.E) (fun S u => S.sNow (S.now.sE u)) sp_X0_rowOf) (nx cod_X6_eventAt cut_X6_eventAt K n) 26 L st S) ∧
  (∀ (K : Kt FT) (n : Nat) (L : xL) (st : List Value) (S : FT), nx cod_X6_eventAt cut_X6_eventAt K (n + 1) 29 L st S = (O_istore 4 2) (nx cod_X6_eventAt cut_X6_eventAt K n) 29 L st S) ∧
  (∀ (K : Kt FT) (n : Nat) (L : xL) (st : List Value) (S : FT), nx cod_X6_eventAt cut_X6_eventAt K (n + 1) 31 L st S = (O_iload 4 2) (nx cod_X6_eventAt cut_X6_eventAt K n) 31 L st S) ∧
  (∀ (K : Kt FT) (n : Nat) (L : xL) (st : List Value) (S : FT), nx cod_X6_eventAt cut_X6_eventAt K (n + 1) 33 L st S = (O_int (-1) 1) (nx cod_X6_eventAt cut_X6_eventAt K n) 33 L st S) ∧
  (∀ (K : Kt FT) (n : Nat) (L : xL) (st : List Value) (S : FT), nx cod_X6_eventAt cut_X6_eventAt K (n + 1) 34 L st S = (O_icmp_ne 40) (nx cod_X6_eventAt cut_X6_eventAt K n) 34 L st S) ∧
  (∀ (K : Kt FT) (n : Nat) (L : xL) (st : List Value) (S : FT), nx cod_X6_eventAt cut_X6_eventAt K (n + 1) 37 L st S = (O_int (-1000004) 2) (nx cod_X6_eventAt cut_X6_eventAt K n) 37 L st S) ∧
  (∀ (K : Kt FT) (n : Nat) (L : xL) (st : List Value) (S : FT), nx cod_X6_eventAt cut_X6_eventAt K (n + 1) 39 L st S = (O_iret) (nx cod_X6_eventAt cut_X6_eventAt K n) 39 L st S) ∧
  (∀ (K : Kt FT) (n : Nat) (L : xL) (st : List Value) (S : FT), nx cod_X6_eventAt cut_X6_eventAt K (n + 1) 40 L st S = (O_iload 2 1) (nx cod_X6_eventAt cut_X6_eventAt K n) 40 L st S) ∧
  (∀ (K : Kt FT) (n : Nat) (L : xL) (st : List Value) (S : FT), nx cod_X6_eventAt cut_X6_eventAt K (n + 1) 41 L st S = (O_if_ne 52) (nx cod_X6_eventAt cut_X6_eventAt K n) 41 L st S) ∧
  (∀ (K : Kt FT) (n : Nat) (L : xL) (st : List Value) (S : FT), nx cod_X6_eventAt cut_X6_eventAt K (n + 1) 44 L st S = (O_aload 3 1) (nx cod_X6_eventAt cut_X6_eventAt K n) 44 L st S) ∧
  (∀ (K : Kt FT) (n : Nat) (L : xL) (st : List Value) (S : FT), nx cod_X6_eventAt cut_X6_eventAt K (n + 1) 45 L st S = (O_getf fpW 0 0) (nx cod_X6_eventAt cut_X6_eventAt K n) 45 L st S) ∧
  (∀ (K : Kt FT) (n : Nat) (L : xL) (st : List Value) (S : FT), nx cod_X6_eventAt cut_X6_eventAt K (n + 1) 48 L st S = (O_iload 4 2) (nx cod_X6_eventAt cut_X6_eventAt K n) 48 L st S) ∧
  (∀ (K : Kt FT) (n : Nat) (L : xL) (st : List Value) (S : FT), nx cod_X6_eventAt cut_X6_eventAt K (n + 1) 50 L st S = (O_ald fpW 0) (nx cod_X6_eventAt cut_X6_eventAt K n) 50 L st S) ∧
  (∀ (K : Kt FT) (n : Nat) (L : xL) (st : List Value) (S : FT), nx cod_X6_eventAt cut_X6_eventAt K (n + 1) 51 L st S = (O_iret) (nx cod_X6_eventAt cut_X6_eventAt K n) 51 L st S) ∧
  (∀ (K : Kt FT) (n : Nat) (L : xL) (st : List Value) (S : FT), nx cod_X6_eventAt cut_X6_eventAt K (n + 1) 52 L st S = (O_iload 2 1) (nx cod_X6_eventAt cut_X6_eventAt K n) 52 L st S) ∧
  (∀ (K : Kt FT) (n : Nat) (L : xL) (st : List Value) (S : FT), nx cod_X6_eventAt cut_X6_eventAt K (n + 1) 53 L st S = (O_int 1 1) (nx cod_X6_eventAt cut_X6_eventAt K n) 53 L st S) ∧
  (∀ (K : Kt FT) (n : Nat) (L : xL) (st : List Value) (S : FT), nx cod_X6_eventAt cut_X6_eventAt K (n + 1) 54 L st S = (O_icmp_ne 65) (nx cod_X6_eventAt cut_X6_eventAt K n) 54 L st S) ∧
  (∀ (K : Kt FT) (n : Nat) (L : xL) (st : List Value) (S : FT), nx cod_X6_eventAt cut_X6_eventAt K (n + 1) 57 L st S = (O_aload 3 1) (nx cod_X6_eventAt cut_X6_eventAt K n) 57 L st S) ∧
  (∀ (K : Kt FT) (n : Nat) (L : xL) (st : List Value) (S : FT), nx cod_X6_eventAt cut_X6_eventAt K (n + 1) 58 L st S = (O_getf fpW 0 1) (nx cod_X6_eventAt cut_X6_eventAt K n) 58 L st S) ∧
  (∀ (K : Kt FT) (n : Nat) (L : xL) (st : List Value) (S : FT), nx cod_X6_eventAt cut_X6_eventAt K (n + 1) 61 L st S = (O_iload 4 2) (nx cod_X6_eventAt cut_X6_eventAt K n) 61 L st S) ∧
  (∀ (K : Kt FT) (n : Nat) (L : xL) (st : List Value) (S : FT), nx cod_X6_eventAt cut_X6_eventAt K (n + 1) 63 L st S = (O_ald fpW 0) (nx cod_X6_eventAt cut_X6_eventAt K n) 63 L st S) ∧
  (∀ (K : Kt FT) (n : Nat) (L : xL) (st : List Value) (S : FT), nx cod_X6_eventAt cut_X6_eventAt K (n + 1) 64 L st S = (O_iret) (nx cod_X6_eventAt cut_X6_eventAt K n) 64 L st S) ∧
  (∀ (K : Kt FT) (n : Nat) (L : xL) (st : List Value) (S : FT), nx cod_X6_eventAt cut_X6_eventAt K (n + 1) 65 L st S = (O_aload 3 1) (nx cod_X6_eventAt cut_X6_eventAt K n) 65 L st S) ∧
  (∀ (K : Kt FT) (n : Nat) (L : xL) (st : List Value) (S : FT), nx cod_X6_eventAt cut_X6_eventAt K (n + 1) 66 L st S = (O_getf fpW 0 2) (nx cod_X6_eventAt cut_X6_eventAt K n) 66 L st S) ∧
  (∀ (K : Kt FT) (n : Nat) (L : xL) (st : List Value) (S : FT), nx cod_X6_eventAt cut_X6_eventAt K (n + 1) 69 L st S = (O_iload 4 2) (nx cod_X6_eventAt cut_X6_eventAt K n) 69 L st S) ∧
  (∀ (K : Kt FT) (n : Nat) (L : xL) (st : List Value) (S : FT), nx cod_X6_eventAt cut_X6_eventAt K (n + 1) 71 L st S = (O_ald fpW 0) (nx cod_X6_eventAt cut_X6_eventAt K n) 71 L st S) ∧
  (∀ (K : Kt FT) (n : Nat) (L : xL) (st : List Value) (S : FT), nx cod_X6_eventAt cut_X6_eventAt K (n + 1) 72 L st S = (O_int (-1) 1) (nx cod_X6_eventAt cut_X6_eventAt K n) 72 L st S) ∧
  (∀ (K : Kt FT) (n : Nat) (L : xL) (st : List Value) (S : FT), nx cod_X6_eventAt cut_X6_eventAt K (n + 1) 73 L st S = (O_icmp_ne 81) (nx cod_X6_eventAt cut_X6_eventAt K n) 73 L st S) ∧
  (∀ (K : Kt FT) (n : Nat) (L : xL) (st : List Value) (S : FT), nx cod_X6_eventAt cut_X6_eventAt K (n + 1) 76 L st S = (O_int (-1000004) 2) (nx cod_X6_eventAt cut_X6_eventAt K n) 76 L st S) ∧
  (∀ (K : Kt FT) (n : Nat) (L : xL) (st : List Value) (S : FT), nx cod_X6_eventAt cut_X6_eventAt K (n + 1) 78 L st S = (O_goto 88) (nx cod_X6_eventAt cut_X6_eventAt K n) 78 L st S) ∧
  (∀ (K : Kt FT) (n : Nat) (L : xL) (st : List Value) (S : FT), nx cod_X6_eventAt cut_X6_eventAt K (n + 1) 81 L st S = (O_aload 3 1) (nx cod_X6_eventAt cut_X6_eventAt K n) 81 L st S) ∧
  (∀ (K : Kt FT) (n : Nat) (L : xL) (st : List Value) (S : FT), nx cod_X6_eventAt cut_X6_eventAt K (n + 1) 82 L st S = (O_getf fpW 0 2) (nx cod_X6_eventAt cut_X6_eventAt K n) 82 L st S) ∧
  (∀ (K : Kt FT) (n : Nat) (L : xL) (st : List Value) (S : FT), nx cod_X6_eventAt cut_X6_eventAt K (n + 1) 85 L st S = (O_iload 4 2) (nx cod_X6_eventAt cut_X6_eventAt K n) 85 L st S) ∧
  (∀ (K : Kt FT) (n : Nat) (L : xL) (st : List Value) (S : FT), nx cod_X6_eventAt cut_X6_eventAt K (n + 1) 87 L st S = (O_ald fpW 0) (nx cod_X6_eventAt cut_X6_eventAt K n) 87 L st S) ∧
  (∀ (K : Kt FT) (n : Nat) (L : xL) (st : List Value) (S : FT), nx cod_X6_eventAt cut_X6_eventAt K (n + 1) 88 L st S = (O_iret) (nx cod_X6_eventAt cut_X6_eventAt K n) 88 L st S) ∧
  (∀ (K : Kt FT) (n : Nat) (L : xL) (st : List Value) (S : FT), nx cod_X6_eventAt cut_X6_eventAt K (n + 1) 100000 L st S = K 100000 L st S) := by
  repeat' apply And.intro
  all_goals (intros; rfl)
set_option maxRecDepth 100000 in
theorem mk_X6_eventAt {P P' : FT} {r : Option Value} {p0 : Int32} {p1 : Int32} (body : ∀ E : En, CodOk E fpW cod_X6_eventAt → Gd E fpW 100000 [] r.toList P' → Gd E fpW 0 [some (.ref 0), some (.int p0), some (.int p1), none, none] [] P) : Con yX6_eventAt cX6_eventAt 5 (some .int) 3 fpW [.ref 0, .int p0, .int p1] P r P' :=
  Con.of (by decide) rfl rfl (Nat.le_of_ble_eq_true rfl) (fun E F G hr => body E (okc_X6_eventAt F G) hr)
set_option maxRecDepth 10000 in
theorem con_X6_eventAt (S : FT) (i : Int32) (w : Int32) (hp : S.good) : Con yX6_eventAt cX6_eventAt 5 (some .int) 3 fpW [.ref 0, .int i, .int w] S (some (.int (if FT.okEv i w = false then -1000001 else if S.now.E.rowOf i = -1 then -1000004 else S.now.E.of (S.now.E.rowOf i).toNatClampNeg w))) (S) := by
  refine mk_X6_eventAt (fun E C hr => ?_)
  have hv := ET.rowOf_in (S := S.now.E) (i := i)
  clear hp
  (refine nx_ok C (cuts := cut_X6_eventAt) 1000 _ _ _ _ ?_; simp only [w_X6_eventAt, ops_eq, xst_eq, call_eq, oK_eq, Option.toList_some, Option.toList_none, List.cons_append, List.nil_append, List.length_cons, List.length_nil, true_and, and_true, Nat.reduceAdd, fpW_F, fpW_A, fpW_S, fpW_P, FT_id, ST_id, FT_gs, ST_gs, PT_gs, ZT_gs, NT_gs, ET_gs, OT_gs, se_X6_within, se_X0_rowOf, bI_eq])
  ((repeat' (with_reducible first | apply And.intro | intro _)) <;> simp_all [FT.okEv, ET.of, FT_id, ST_id, FT_gs, ST_gs, PT_gs, ZT_gs, NT_gs, ET_gs, OT_gs])
def sp_X6_eventAt : Sp FT := fun av S K => match av with
  | [.ref 0, .int i, .int w] => (S.good) ∧ K (some (.int (if FT.okEv i w = false then -1000001 else if S.now.E.rowOf i = -1 then -1000004 else S.now.E.of (S.now.E.rowOf i).toNatClampNeg w))) (S)
  | _ => False
theorem se_X6_eventAt (i : Int32) (w : Int32) (S : FT) (K : Option Value → FT → Prop) : sp_X6_eventAt [.ref 0, .int i, .int w] S K = ((S.good) ∧ K (some (.int (if FT.okEv i w = false then -1000001 else if S.now.E.rowOf i = -1 then -1000004 else S.now.E.of (S.now.E.rowOf i).toNatClampNeg w))) (S)) := rfl
theorem spok_X6_eventAt : SpOk yX6_eventAt cX6_eventAt 5 (some .int) 3 fpW sp_X6_eventAt := by
  intro av S K h
  unfold sp_X6_eventAt at h
  split at h
  · rename_i i w; exact ⟨some (.int (if FT.okEv i w = false then -1000001 else if S.now.E.rowOf i = -1 then -1000004 else S.now.E.of (S.now.E.rowOf i).toNatClampNeg w)), S, trivial, con_X6_eventAt S i w h.1, h.2⟩
  · exact h.elim
def FT.cnt (S : FT) (w : Int32) : Int32 := if inR w 20 38 = true then S.now.settings (w - 20).toNatClampNeg else if w = 0 then S.now.P.size else if w = 1 then S.now.Z.size else if w = 2 then S.now.Z.programmes else if w = 3 then S.now.Z.openOnes else if w = 4 then S.now.P.readyOnes else if w = 5 then S.now.N.size else if w = 6 then S.now.E.kept else if w = 7 then S.now.time else if w = 8 then S.now.time % 1440 else if w = 9 then S.states else if w = 10 then S.O.length else -1000001
theorem inR_in {v a : Int32} {n : Nat} (ha : ¬ a < 0) (hn : a.toInt + n < 2147483648) (h1 : ¬ v < a) (h2 : v.toInt < a.toInt + n) : vp_in (v - a) n := by
  have e : (v - a).toInt = v.toInt - a.toInt := by
    rw [Int32.toInt_sub]
    rw [Int32.lt_iff_toInt_lt] at ha h1
    have ez : (0 : Int32).toInt = 0 := rfl
    exact Int.bmod_eq_of_le (by omega) (by omega)
  rw [Int32.lt_iff_toInt_lt] at h1
  intro q
  rcases q with q | q
  · rw [Int32.lt_iff_toInt_lt] at q
    have ez : (0 : Int32).toInt = 0 := rfl
    omega
  · have : (v - a).toNatClampNeg = (v - a).toInt.toNat := rfl
    omega
theorem flX6_26 : fldOk RX6 26 6 4 = true := by decide +kernel
theorem flX6_45 : fldOk RX6 45 4 0 = true := by decide +kernel
theorem flX6_159 : fldOk RX6 159 4 5 = true := by decide +kernel
theorem flX6_234 : fldOk RX6 234 1 1 = true := by decide +kernel
theorem flX6_241 : fldOk RX6 241 2 1 = true := by decide +kernel
def cod_X6_count : List (Nat × Op FT) := [(0, O_iload 1 1), (1, O_int 20 2), (3, O_int 38 2), (5, O_callS 3 sp_X6_within), (8, O_if_eq 24), (11, O_aload 0 1), (12, O_getf fpW 6 0), (15, O_getf fpW 4 0), (18, O_iload 1 1), (19, O_int 20 2), (21, O_isub), (22, O_ald fpW 0), (23, O_iret), (24, O_iload 1 1), (25, O_switch [(0, 84), (1, 95), (2, 106), (3, 117), (4, 128), (5, 139), (6, 150), (7, 161), (8, 169), (9, 181), (10, 186)] 194), (84, O_aload 0 1), (85, O_getf fpW 6 0), (88, O_getf fpW 4 1), (91, O_getf fpW 3 8), (94, O_iret), (95, O_aload 0 1), (96, O_getf fpW 6 0), (99, O_getf fpW 4 2), (102, O_getf fpW 5 2), (105, O_iret), (106, O_aload 0 1), (107, O_getf fpW 6 0), (110, O_getf fpW 4 2), (113, O_getf fpW 5 6), (116, O_iret), (117, O_aload 0 1), (118, O_getf fpW 6 0), (121, O_getf fpW 4 2), (124, O_callV 0 12 (fun S : FT => S.now.Z) (fun S u => S.sNow (S.now.sZ u)) sp_X5_openOnes), (127, O_iret), (128, O_aload 0 1), (129, O_getf fpW 6 0), (132, O_getf fpW 4 1), (135, O_callV 0 3 (fun S : FT => S.now.P) (fun S u => S.sNow (S.now.sP u)) sp_X3_readyOnes), (138, O_iret), (139, O_aload 0 1), (140, O_getf fpW 6 0), (143, O_getf fpW 4 3), (146, O_getf fpW 1 1), (149, O_iret), (150, O_aload 0 1), (151, O_getf fpW 6 0), (154, O_getf fpW 4 4), (157, O_callV 0 20 (fun S : FT => S.now.E) (fun S u => S.sNow (S.now.sE u)) sp_X0_kept), (160, O_iret), (161, O_aload 0 1), (162, O_getf fpW 6 0), (165, O_getf fpW 4 5), (168, O_iret), (169, O_aload 0 1), (170, O_getf fpW 6 0), (173, O_getf fpW 4 5), (176, O_int 1440 3), (179, O_irem), (180, O_iret), (181, O_aload 0 1), (182, O_getf fpW 6 3), (185, O_iret), (186, O_aload 0 1), (187, O_getf fpW 6 4), (190, O_getf fpW 2 1), (193, O_iret), (194, O_int (-1000001) 2), (196, O_iret)]
abbrev cut_X6_count : List Nat := []
set_option maxRecDepth 100000 in
theorem okc_X6_count {E : En} (F : Fx E RX6 cX6_count 2 2) (G : Fr E (some .int)) : CodOk E fpW cod_X6_count := by
  unfold CodOk cod_X6_count
  refine List.forall_mem_cons.mpr ⟨ok_iload_n F dX6_count_0 rfl (by decide), ?_⟩
  refine List.forall_mem_cons.mpr ⟨ok_bipush F dX6_count_1 (by decide) (by decide), ?_⟩
  refine List.forall_mem_cons.mpr ⟨ok_bipush F dX6_count_3 (by decide) (by decide), ?_⟩
  refine List.forall_mem_cons.mpr ⟨ok_callS F spok_X6_within (by decide +kernel) rfl (by decide) dX6_count_5 (by decide), ?_⟩
  refine List.forall_mem_cons.mpr ⟨ok_if_eq F dX6_count_8 (by decide) (by decide) (by decide), ?_⟩
  refine List.forall_mem_cons.mpr ⟨ok_aload_n F dX6_count_11 rfl (by decide), ?_⟩
  refine List.forall_mem_cons.mpr ⟨ok_getf F flX6_10 dX6_count_12 (by decide), ?_⟩
  refine List.forall_mem_cons.mpr ⟨ok_getf F flX6_45 dX6_count_15 (by decide), ?_⟩
  refine List.forall_mem_cons.mpr ⟨ok_iload_n F dX6_count_18 rfl (by decide), ?_⟩
  refine List.forall_mem_cons.mpr ⟨ok_bipush F dX6_count_19 (by decide) (by decide), ?_⟩
  refine List.forall_mem_cons.mpr ⟨ok_isub F dX6_count_21 (by decide), ?_⟩
  refine List.forall_mem_cons.mpr ⟨ok_iald F dX6_count_22 (by decide), ?_⟩
  refine List.forall_mem_cons.mpr ⟨ok_iret F G dX6_count_23 (by decide), ?_⟩
  refine List.forall_mem_cons.mpr ⟨ok_iload_n F dX6_count_24 rfl (by decide), ?_⟩
  refine List.forall_mem_cons.mpr ⟨ok_table F dX6_count_25 (by decide +kernel) (by decide), ?_⟩
  refine List.forall_mem_cons.mpr ⟨ok_aload_n F dX6_count_84 rfl (by decide), ?_⟩
  refine List.forall_mem_cons.mpr ⟨ok_getf F flX6_10 dX6_count_85 (by decide), ?_⟩
  refine List.forall_mem_cons.mpr ⟨ok_getf F flX6_50 dX6_count_88 (by decide), ?_⟩
  refine List.forall_mem_cons.mpr ⟨ok_getf F flX6_54 dX6_count_91 (by decide), ?_⟩
  refine List.forall_mem_cons.mpr ⟨ok_iret F G dX6_count_94 (by decide), ?_⟩
  refine List.forall_mem_cons.mpr ⟨ok_aload_n F dX6_count_95 rfl (by decide), ?_⟩
  refine List.forall_mem_cons.mpr ⟨ok_getf F flX6_10 dX6_count_96 (by decide), ?_⟩
  refine List.forall_mem_cons.mpr ⟨ok_getf F flX6_115 dX6_count_99 (by decide), ?_⟩
  refine List.forall_mem_cons.mpr ⟨ok_getf F flX6_119 dX6_count_102 (by decide), ?_⟩
  refine List.forall_mem_cons.mpr ⟨ok_iret F G dX6_count_105 (by decide), ?_⟩
  refine List.forall_mem_cons.mpr ⟨ok_aload_n F dX6_count_106 rfl (by decide), ?_⟩
  refine List.forall_mem_cons.mpr ⟨ok_getf F flX6_10 dX6_count_107 (by decide), ?_⟩
  refine List.forall_mem_cons.mpr ⟨ok_getf F flX6_115 dX6_count_110 (by decide), ?_⟩
  refine List.forall_mem_cons.mpr ⟨ok_getf F flX6_134 dX6_count_113 (by decide), ?_⟩
  refine List.forall_mem_cons.mpr ⟨ok_iret F G dX6_count_116 (by decide), ?_⟩
  refine List.forall_mem_cons.mpr ⟨ok_aload_n F dX6_count_117 rfl (by decide), ?_⟩
  refine List.forall_mem_cons.mpr ⟨ok_getf F flX6_10 dX6_count_118 (by decide), ?_⟩
  refine List.forall_mem_cons.mpr ⟨ok_getf F flX6_115 dX6_count_121 (by decide), ?_⟩
  refine List.forall_mem_cons.mpr ⟨ok_callV F spok_X5_openOnes ln_fp_now_Z rcv_zW (by decide +kernel) (by decide) dX6_count_124 (by decide), ?_⟩
  refine List.forall_mem_cons.mpr ⟨ok_iret F G dX6_count_127 (by decide), ?_⟩
  refine List.forall_mem_cons.mpr ⟨ok_aload_n F dX6_count_128 rfl (by decide), ?_⟩
  refine List.forall_mem_cons.mpr ⟨ok_getf F flX6_10 dX6_count_129 (by decide), ?_⟩
  refine List.forall_mem_cons.mpr ⟨ok_getf F flX6_50 dX6_count_132 (by decide), ?_⟩
  refine List.forall_mem_cons.mpr ⟨ok_callV F spok_X3_readyOnes ln_fp_now_P rcv_pW (by decide +kernel) (by decide) dX6_count_135 (by decide), ?_⟩
  refine List.forall_mem_cons.mpr ⟨ok_iret F G dX6_count_138 (by decide), ?_⟩
  refine List.forall_mem_cons.mpr ⟨ok_aload_n F dX6_count_139 rfl (by decide), ?_⟩
  refine List.forall_mem_cons.mpr ⟨ok_getf F flX6_10 dX6_count_140 (by decide), ?_⟩
  refine List.forall_mem_cons.mpr ⟨ok_getf F flX6_194 dX6_count_143 (by decide), ?_⟩
  refine List.forall_mem_cons.mpr ⟨ok_getf F flX6_234 dX6_count_146 (by decide), ?_⟩
  refine List.forall_mem_cons.mpr ⟨ok_iret F G dX6_count_149 (by decide), ?_⟩
  refine List.forall_mem_cons.mpr ⟨ok_aload_n F dX6_count_150 rfl (by decide), ?_⟩
  refine List.forall_mem_cons.mpr ⟨ok_getf F flX6_10 dX6_count_151 (by decide), ?_⟩
  refine List.forall_mem_cons.mpr ⟨ok_getf F flX6_177 dX6_count_154 (by decide), ?_⟩
  refine List.forall_mem_cons.mpr ⟨ok_callV F spok_X0_kept ln_fp_now_E rcv_eW (by decide +kernel) (by decide) dX6_count_157 (by decide), ?_⟩
  refine List.forall_mem_cons.mpr ⟨ok_iret F G dX6_count_160 (by decide), ?_⟩
  refine List.forall_mem_cons.mpr ⟨ok_aload_n F dX6_count_161 rfl (by decide), ?_⟩
  refine List.forall_mem_cons.mpr ⟨ok_getf F flX6_10 dX6_count_162 (by decide), ?_⟩
  refine List.forall_mem_cons.mpr ⟨ok_getf F flX6_159 dX6_count_165 (by decide), ?_⟩
  refine List.forall_mem_cons.mpr ⟨ok_iret F G dX6_count_168 (by decide), ?_⟩
  refine List.forall_mem_cons.mpr ⟨ok_aload_n F dX6_count_169 rfl (by decide), ?_⟩
  refine List.forall_mem_cons.mpr ⟨ok_getf F flX6_10 dX6_count_170 (by decide), ?_⟩
  refine List.forall_mem_cons.mpr ⟨ok_getf F flX6_159 dX6_count_173 (by decide), ?_⟩
  refine List.forall_mem_cons.mpr ⟨ok_sipush F dX6_count_176 (by decide) (by decide), ?_⟩
  refine List.forall_mem_cons.mpr ⟨ok_irem F dX6_count_179 (by decide), ?_⟩
  refine List.forall_mem_cons.mpr ⟨ok_iret F G dX6_count_180 (by decide), ?_⟩
  refine List.forall_mem_cons.mpr ⟨ok_aload_n F dX6_count_181 rfl (by decide), ?_⟩
  refine List.forall_mem_cons.mpr ⟨ok_getf F flX6_238 dX6_count_182 (by decide), ?_⟩
  refine List.forall_mem_cons.mpr ⟨ok_iret F G dX6_count_185 (by decide), ?_⟩
  refine List.forall_mem_cons.mpr ⟨ok_aload_n F dX6_count_186 rfl (by decide), ?_⟩
  refine List.forall_mem_cons.mpr ⟨ok_getf F flX6_26 dX6_count_187 (by decide), ?_⟩
  refine List.forall_mem_cons.mpr ⟨ok_getf F flX6_241 dX6_count_190 (by decide), ?_⟩
  refine List.forall_mem_cons.mpr ⟨ok_iret F G dX6_count_193 (by decide), ?_⟩
  refine List.forall_mem_cons.mpr ⟨ok_ldc F (ix := 41) (wsHas_mem (l := [Jvm.Cond.constant RX6 41 (-1000001)]) (by decide +kernel) (by simp)) dX6_count_194 (by decide), ?_⟩
  refine List.forall_mem_cons.mpr ⟨ok_iret F G dX6_count_196 (by decide), ?_⟩
  exact fun _ h => absurd h List.not_mem_nil
set_option maxRecDepth 100000 in
theorem w_X6_count : (∀ (K : Kt FT) (n : Nat) (L : xL) (st : List Value) (S : FT), nx cod_X6_count cut_X6_count K (n + 1) 0 L st S = (O_iload 1 1) (nx cod_X6_count cut_X6_count K n) 0 L st S) ∧
  (∀ (K : Kt FT) (n : Nat) (L : xL) (st : List Value) (S : FT), nx cod_X6_count cut_X6_count K (n + 1) 1 L st S = (O_int 20 2) (nx cod_X6_count cut_X6_count K n) 1 L st S) ∧
  (∀ (K : Kt FT) (n : Nat) (L : xL) (st : List Value) (S : FT), nx cod_X6_count cut_X6_count K (n + 1) 3 L st S = (O_int 38 2) (nx cod_X6_count cut_X6_count K n) 3 L st S) ∧
  (∀ (K : Kt FT) (n : Nat) (L : xL) (st : List Value) (S : FT), nx cod_X6_count cut_X6_count K (n + 1) 5 L st S = (O_callS 3 sp_X6_within) (nx cod_X6_count cut_X6_count K n) 5 L st S) ∧
  (∀ (K : Kt FT) (n : Nat) (L : xL) (st : List Value) (S : FT), nx cod_X6_count cut_X6_count K (n + 1) 8 L st S = (O_if_eq 24) (nx cod_X6_count cut_X6_count K n) 8 L st S) ∧
  (∀ (K : Kt FT) (n : Nat) (L : xL) (st : List Value) (S : FT), nx cod_X6_count cut_X6_count K (n + 1) 11 L st S = (O_aload 0 1) (nx cod_X6_count cut_X6_count K n) 11 L st S) ∧
  (∀ (K : Kt FT) (n : Nat) (L : xL) (st : List Value) (S : FT), nx cod_X6_count cut_X6_count K (n + 1) 12 L st S = (O_getf fpW 6 0) (nx cod_X6_count cut_X6_count K n) 12 L st S) ∧
  (∀ (K : Kt FT) (n : Nat) (L : xL) (st : List Value) (S : FT), nx cod_X6_count cut_X6_count K (n + 1) 15 L st S = (O_getf fpW 4 0) (nx cod_X6_count cut_X6_count K n) 15 L st S) ∧
  (∀ (K : Kt FT) (n : Nat) (L : xL) (st : List Value) (S : FT), nx cod_X6_count cut_X6_count K (n + 1) 18 L st S = (O_iload 1 1) (nx cod_X6_count cut_X6_count K n) 18 L st S) ∧
  (∀ (K : Kt FT) (n : Nat) (L : xL) (st : List Value) (S : FT), nx cod_X6_count cut_X6_count K (n + 1) 19 L st S = (O_int 20 2) (nx cod_X6_count cut_X6_count K n) 19 L st S) ∧
  (∀ (K : Kt FT) (n : Nat) (L : xL) (st : List Value) (S : FT), nx cod_X6_count cut_X6_count K (n + 1) 21 L st S = (O_isub) (nx cod_X6_count cut_X6_count K n) 21 L st S) ∧
  (∀ (K : Kt FT) (n : Nat) (L : xL) (st : List Value) (S : FT), nx cod_X6_count cut_X6_count K (n + 1) 22 L st S = (O_ald fpW 0) (nx cod_X6_count cut_X6_count K n) 22 L st S) ∧
  (∀ (K : Kt FT) (n : Nat) (L : xL) (st : List Value) (S : FT), nx cod_X6_count cut_X6_count K (n + 1) 23 L st S = (O_iret) (nx cod_X6_count cut_X6_count K n) 23 L st S) ∧
  (∀ (K : Kt FT) (n : Nat) (L : xL) (st : List Value) (S : FT), nx cod_X6_count cut_X6_count K (n + 1) 24 L st S = (O_iload 1 1) (nx cod_X6_count cut_X6_count K n) 24 L st S) ∧
  (∀ (K : Kt FT) (n : Nat) (L : xL) (st : List Value) (S : FT), nx cod_X6_count cut_X6_count K (n + 1) 25 L st S = (O_switch [(0, 84), (1, 95), (2, 106), (3, 117), (4, 128), (5, 139), (6, 150), (7, 161), (8, 169), (9, 181), (10, 186)] 194) (nx cod_X6_count cut_X6_count K n) 25 L st S) ∧
  (∀ (K : Kt FT) (n : Nat) (L : xL) (st : List Value) (S : FT), nx cod_X6_count cut_X6_count K (n + 1) 84 L st S = (O_aload 0 1) (nx cod_X6_count cut_X6_count K n) 84 L st S) ∧
  (∀ (K : Kt FT) (n : Nat) (L : xL) (st : List Value) (S : FT), nx cod_X6_count cut_X6_count K (n + 1) 85 L st S = (O_getf fpW 6 0) (nx cod_X6_count cut_X6_count K n) 85 L st S) ∧
  (∀ (K : Kt FT) (n : Nat) (L : xL) (st : List Value) (S : FT), nx cod_X6_count cut_X6_count K (n + 1) 88 L st S = (O_getf fpW 4 1) (nx cod_X6_count cut_X6_count K n) 88 L st S) ∧
  (∀ (K : Kt FT) (n : Nat) (L : xL) (st : List Value) (S : FT), nx cod_X6_count cut_X6_count K (n + 1) 91 L st S = (O_getf fpW 3 8) (nx cod_X6_count cut_X6_count K n) 91 L st S) ∧
  (∀ (K : Kt FT) (n : Nat) (L : xL) (st : List Value) (S : FT), nx cod_X6_count cut_X6_count K (n + 1) 94 L st S = (O_iret) (nx cod_X6_count cut_X6_count K n) 94 L st S) ∧
  (∀ (K : Kt FT) (n : Nat) (L : xL) (st : List Value) (S : FT), nx cod_X6_count cut_X6_count K (n + 1) 95 L st S = (O_aload 0 1) (nx cod_X6_count cut_X6_count K n) 95 L st S) ∧
  (∀ (K : Kt FT) (n : Nat) (L : xL) (st : List Value) (S : FT), nx cod_X6_count cut_X6_count K (n + 1) 96 L st S = (O_getf fpW 6 0) (nx cod_X6_count cut_X6_count K n) 96 L st S) ∧
  (∀ (K : Kt FT) (n : Nat) (L : xL) (st : List Value) (S : FT), nx cod_X6_count cut_X6_count K (n + 1) 99 L st S = (O_getf fpW 4 2) (nx cod_X6_count cut_X6_count K n) 99 L st S) ∧
  (∀ (K : Kt FT) (n : Nat) (L : xL) (st : List Value) (S : FT), nx cod_X6_count cut_X6_count K (n + 1) 102 L st S = (O_getf fpW 5 2) (nx cod_X6_count cut_X6_count K n) 102 L st S) ∧
  (∀ (K : Kt FT) (n : Nat) (L : xL) (st : List Value) (S : FT), nx cod_X6_count cut_X6_count K (n + 1) 105 L st S = (O_iret) (nx cod_X6_count cut_X6_count K n) 105 L st S) ∧
  (∀ (K : Kt FT) (n : Nat) (L : xL) (st : List Value) (S : FT), nx cod_X6_count cut_X6_count K (n + 1) 106 L st S = (O_aload 0 1) (nx cod_X6_count cut_X6_count K n) 106 L st S) ∧
  (∀ (K : Kt FT) (n : Nat) (L : xL) (st : List Value) (S : FT), nx cod_X6_count cut_X6_count K (n + 1) 107 L st S = (O_getf fpW 6 0) (nx cod_X6_count cut_X6_count K n) 107 L st S) ∧
  (∀ (K : Kt FT) (n : Nat) (L : xL) (st : List Value) (S : FT), nx cod_X6_count cut_X6_count K (n + 1) 110 L st S = (O_getf fpW 4 2) (nx cod_X6_count cut_X6_count K n) 110 L st S) ∧
  (∀ (K : Kt FT) (n : Nat) (L : xL) (st : List Value) (S : FT), nx cod_X6_count cut_X6_count K (n + 1) 113 L st S = (O_getf fpW 5 6) (nx cod_X6_count cut_X6_count K n) 113 L st S) ∧
  (∀ (K : Kt FT) (n : Nat) (L : xL) (st : List Value) (S : FT), nx cod_X6_count cut_X6_count K (n + 1) 116 L st S = (O_iret) (nx cod_X6_count cut_X6_count K n) 116 L st S) ∧
  (∀ (K : Kt FT) (n : Nat) (L : xL) (st : List Value) (S : FT), nx cod_X6_count cut_X6_count K (n + 1) 117 L st S = (O_aload 0 1) (nx cod_X6_count cut_X6_count K n) 117 L st S) ∧
  (∀ (K : Kt FT) (n : Nat) (L : xL) (st : List Value) (S : FT), nx cod_X6_count cut_X6_count K (n + 1) 118 L st S = (O_getf fpW 6 0) (nx cod_X6_count cut_X6_count K n) 118 L st S) ∧
  (∀ (K : Kt FT) (n : Nat) (L : xL) (st : List Value) (S : FT), nx cod_X6_count cut_X6_count K (n + 1) 121 L st S = (O_getf fpW 4 2) (nx cod_X6_count cut_X6_count K n) 121 L st S) ∧
  (∀ (K : Kt FT) (n : Nat) (L : xL) (st : List Value) (S : FT), nx cod_X6_count cut_X6_count K (n + 1) 124 L st S = (O_callV 0 12 (fun S : FT => S.now.Z) (fun S u => S.sNow (S.now.sZ u)) sp_X5_openOnes) (nx cod_X6_count cut_X6_count K n) 124 L st S) ∧
  (∀ (K : Kt FT) (n : Nat) (L : xL) (st : List Value) (S : FT), nx cod_X6_count cut_X6_count K (n + 1) 127 L st S = (O_iret) (nx cod_X6_count cut_X6_count K n) 127 L st S) ∧
  (∀ (K : Kt FT) (n : Nat) (L : xL) (st : List Value) (S : FT), nx cod_X6_count cut_X6_count K (n + 1) 128 L st S = (O_aload 0 1) (nx cod_X6_count cut_X6_count K n) 128 L st S) ∧
  (∀ (K : Kt FT) (n : Nat) (L : xL) (st : List Value) (S : FT), nx cod_X6_count cut_X6_count K (n + 1) 129 L st S = (O_getf fpW 6 0) (nx cod_X6_count cut_X6_count K n) 129 L st S) ∧
  (∀ (K : Kt FT) (n : Nat) (L : xL) (st : List Value) (S : FT), nx cod_X6_count cut_X6_count K (n + 1) 132 L st S = (O_getf fpW 4 1) (nx cod_X6_count cut_X6_count K n) 132 L st S) ∧
  (∀ (K : Kt FT) (n : Nat) (L : xL) (st : List Value) (S : FT), nx cod_X6_count cut_X6_count K (n + 1) 135 L st S = (O_callV 0 3 (fun S : FT => S.now.P) (fun S u => S.sNow (S.now.sP u)) sp_X3_readyOnes) (nx cod_X6_count cut_X6_count K n) 135 L st S) ∧
  (∀ (K : Kt FT) (n : Nat) (L : xL) (st : List Value) (S : FT), nx cod_X6_count cut_X6_count K (n + 1) 138 L st S = (O_iret) (nx cod_X6_count cut_X6_count K n) 138 L st S) ∧
  (∀ (K : Kt FT) (n : Nat) (L : xL) (st : List Value) (S : FT), nx cod_X6_count cut_X6_count K (n + 1) 139 L st S = (O_aload 0 1) (nx cod_X6_count cut_X6_count K n) 139 L st S) ∧
  (∀ (K : Kt FT) (n : Nat) (L : xL) (st : List Value) (S : FT), nx cod_X6_count cut_X6_count K (n + 1) 140 L st S = (O_getf fpW 6 0) (nx cod_X6_count cut_X6_count K n) 140 L st S) ∧
  (∀ (K : Kt FT) (n : Nat) (L : xL) (st : List Value) (S : FT), nx cod_X6_count cut_X6_count K (n + 1) 143 L st S = (O_getf fpW 4 3) (nx cod_X6_count cut_X6_count K n) 143 L st S) ∧
  (∀ (K : Kt FT) (n : Nat) (L : xL) (st : List Value) (S : FT), nx cod_X6_count cut_X6_count K (n + 1) 146 L st S = (O_getf fpW 1 1) (nx cod_X6_count cut_X6_count K n) 146 L st S) ∧
  (∀ (K : Kt FT) (n : Nat) (L : xL) (st : List Value) (S : FT), nx cod_X6_count cut_X6_count K (n + 1) 149 L st S = (O_iret) (nx cod_X6_count cut_X6_count K n) 149 L st S) ∧
  (∀ (K : Kt FT) (n : Nat) (L : xL) (st : List Value) (S : FT), nx cod_X6_count cut_X6_count K (n + 1) 150 L st S = (O_aload 0 1) (nx cod_X6_count cut_X6_count K n) 150 L st S) ∧
  (∀ (K : Kt FT) (n : Nat) (L : xL) (st : List Value) (S : FT), nx cod_X6_count cut_X6_count K (n + 1) 151 L st S = (O_getf fpW 6 0) (nx cod_X6_count cut_X6_count K n) 151 L st S) ∧
  (∀ (K : Kt FT) (n : Nat) (L : xL) (st : List Value) (S : FT), nx cod_X6_count cut_X6_count K (n + 1) 154 L st S = (O_getf fpW 4 4) (nx cod_X6_count cut_X6_count K n) 154 L st S) ∧
  (∀ (K : Kt FT) (n : Nat) (L : xL) (st : List Value) (S : FT), nx cod_X6_count cut_X6_count K (n + 1) 157 L st S = (O_callV 0 20 (fun S : FT => S.now.E) (fun S u => S.sNow (S.now.sE u)) sp_X0_kept) (nx cod_X6_count cut_X6_count K n) 157 L st S) ∧
  (∀ (K : Kt FT) (n : Nat) (L : xL) (st : List Value) (S : FT), nx cod_X6_count cut_X6_count K (n + 1) 160 L st S = (O_iret) (nx cod_X6_count cut_X6_count K n) 160 L st S) ∧
  (∀ (K : Kt FT) (n : Nat) (L : xL) (st : List Value) (S : FT), nx cod_X6_count cut_X6_count K (n + 1) 161 L st S = (O_aload 0 1) (nx cod_X6_count cut_X6_count K n) 161 L st S) ∧
  (∀ (K : Kt FT) (n : Nat) (L : xL) (st : List Value) (S : FT), nx cod_X6_count cut_X6_count K (n + 1) 162 L st S = (O_getf fpW 6 0) (nx cod_X6_count cut_X6_count K n) 162 L st S) ∧
  (∀ (K : Kt FT) (n : Nat) (L : xL) (st : List Value) (S : FT), nx cod_X6_count cut_X6_count K (n + 1) 165 L st S = (O_getf fpW 4 5) (nx cod_X6_count cut_X6_count K n) 165 L st S) ∧
  (∀ (K : Kt FT) (n : Nat) (L : xL) (st : List Value) (S : FT), nx cod_X6_count cut_X6_count K (n + 1) 168 L st S = (O_iret) (nx cod_X6_count cut_X6_count K n) 168 L st S) ∧
  (∀ (K : Kt FT) (n : Nat) (L : xL) (st : List Value) (S : FT), nx cod_X6_count cut_X6_count K (n + 1) 169 L st S = (O_aload 0 1) (nx cod_X6_count cut_X6_count K n) 169 L st S) ∧
  (∀ (K : Kt FT) (n : Nat) (L : xL) (st : List Value) (S : FT), nx cod_X6_count cut_X6_count K (n + 1) 170 L st S = (O_getf fpW 6 0) (nx cod_X6_count cut_X6_count K n) 170 L st S) ∧
  (∀ (K : Kt FT) (n : Nat) (L : xL) (st : List Value) (S : FT), nx cod_X6_count cut_X6_count K (n + 1) 173 L st S = (O_getf fpW 4 5) (nx cod_X6_count cut_X6_count K n) 173 L st S) ∧
  (∀ (K : Kt FT) (n : Nat) (L : xL) (st : List Value) (S : FT), nx cod_X6_count cut_X6_count K (n + 1) 176 L st S = (O_int 1440 3) (nx cod_X6_count cut_X6_count K n) 176 L st S) ∧
  (∀ (K : Kt FT) (n : Nat) (L : xL) (st : List Value) (S : FT), nx cod_X6_count cut_X6_count K (n + 1) 179 L st S = (O_irem) (nx cod_X6_count cut_X6_count K n) 179 L st S) ∧
  (∀ (K : Kt FT) (n : Nat) (L : xL) (st : List Value) (S : FT), nx cod_X6_count cut_X6_count K (n + 1) 180 L st S = (O_iret) (nx cod_X6_count cut_X6_count K n) 180 L st S) ∧
  (∀ (K : Kt FT) (n : Nat) (L : xL) (st : List Value) (S : FT), nx cod_X6_count cut_X6_count K (n + 1) 181 L st S = (O_aload 0 1) (nx cod_X6_count cut_X6_count K n) 181 L st S) ∧
  (∀ (K : Kt FT) (n : Nat) (L : xL) (st : List Value) (S : FT), nx cod_X6_count cut_X6_count K (n + 1) 182 L st S = (O_getf fpW 6 3) (nx cod_X6_count cut_X6_count K n) 182 L st S) ∧
  (∀ (K : Kt FT) (n : Nat) (L : xL) (st : List Value) (S : FT), nx cod_X6_count cut_X6_count K (n + 1) 185 L st S = (O_iret) (nx cod_X6_count cut_X6_count K n) 185 L st S) ∧
  (∀ (K : Kt FT) (n : Nat) (L : xL) (st : List Value) (S : FT), nx cod_X6_count cut_X6_count K (n + 1) 186 L st S = (O_aload 0 1) (nx cod_X6_count cut_X6_count K n) 186 L st S) ∧
  (∀ (K : Kt FT) (n : Nat) (L : xL) (st : List Value) (S : FT), nx cod_X6_count cut_X6_count K (n + 1) 187 L st S = (O_getf fpW 6 4) (nx cod_X6_count cut_X6_count K n) 187 L st S) ∧
  (∀ (K : Kt FT) (n : Nat) (L : xL) (st : List Value) (S : FT), nx cod_X6_count cut_X6_count K (n + 1) 190 L st S = (O_getf fpW 2 1) (nx cod_X6_count cut_X6_count K n) 190 L st S) ∧
  (∀ (K : Kt FT) (n : Nat) (L : xL) (st : List Value) (S : FT), nx cod_X6_count cut_X6_count K (n + 1) 193 L st S = (O_iret) (nx cod_X6_count cut_X6_count K n) 193 L st S) ∧
  (∀ (K : Kt FT) (n : Nat) (L : xL) (st : List Value) (S : FT), nx cod_X6_count cut_X6_count K (n + 1) 194 L st S = (O_int (-1000001) 2) (nx cod_X6_count cut_X6_count K n) 194 L st S) ∧
  (∀ (K : Kt FT) (n : Nat) (L : xL) (st : List Value) (S : FT), nx cod_X6_count cut_X6_count K (n + 1) 196 L st S = (O_iret) (nx cod_X6_count cut_X6_count K n) 196 L st S) ∧
  (∀ (K : Kt FT) (n : Nat) (L : xL) (st : List Value) (S : FT), nx cod_X6_count cut_X6_count K (n + 1) 100000 L st S = K 100000 L st S) := by
  repeat' apply And.intro
  all_goals (intros; rfl)
set_option maxRecDepth 100000 in
theorem mk_X6_count {P P' : FT} {r : Option Value} {p0 : Int32} (body : ∀ E : En, CodOk E fpW cod_X6_count → Gd E fpW 100000 [] r.toList P' → Gd E fpW 0 [some (.ref 0), some (.int p0)] [] P) : Con yX6_count cX6_count 2 (some .int) 2 fpW [.ref 0, .int p0] P r P' :=
  Con.of (by decide) rfl rfl (Nat.le_of_ble_eq_true rfl) (fun E F G hr => body E (okc_X6_count F G) hr)
set_option maxRecDepth 10000 in
theorem con_X6_count (S : FT) (w : Int32) (hp : S.good) : Con yX6_count cX6_count 2 (some .int) 2 fpW [.ref 0, .int w] S (some (.int (S.cnt w))) (S) := by
  refine mk_X6_count (fun E C hr => ?_)
  have h3 := hp.2.1.1.1
  have h4 := hp.2.1.1.2.1
  have hv : inR w 20 38 = true → vp_in (w - 20) 19 := fun q => by
    simp only [inR, decide_eq_true_eq] at q
    obtain ⟨q1, q2⟩ := q
    refine inR_in (by decide) (by decide) q1 ?_
    rw [Int32.lt_iff_toInt_lt] at q2
    have e1 : (38 : Int32).toInt = 38 := rfl
    have e2 : (20 : Int32).toInt = 20 := rfl
    omega
  clear hp
  (refine nx_ok C (cuts := cut_X6_count) 1000 _ _ _ _ ?_; simp only [w_X6_count, ops_eq, xst_eq, call_eq, oK_eq, Option.toList_some, Option.toList_none, List.cons_append, List.nil_append, List.length_cons, List.length_nil, true_and, and_true, Nat.reduceAdd, fpW_F, fpW_A, fpW_S, fpW_P, FT_id, ST_id, FT_gs, ST_gs, PT_gs, ZT_gs, NT_gs, ET_gs, OT_gs, se_X6_within, se_X5_openOnes, se_X3_readyOnes, se_X0_kept, bI_eq, h3, h4, dv_eq, rem_eq])
  ((repeat' (with_reducible first | apply And.intro | intro _)) <;> (try subst_vars) <;> simp_all [FT.cnt, FT_id, ST_id, FT_gs, ST_gs, PT_gs, ZT_gs, NT_gs, ET_gs, OT_gs])
def sp_X6_count : Sp FT := fun av S K => match av with
  | [.ref 0, .int w] => (S.good) ∧ K (some (.int (S.cnt w))) (S)
  | _ => False
theorem se_X6_count (w : Int32) (S : FT) (K : Option Value → FT → Prop) : sp_X6_count [.ref 0, .int w] S K = ((S.good) ∧ K (some (.int (S.cnt w))) (S)) := rfl
theorem spok_X6_count : SpOk yX6_count cX6_count 2 (some .int) 2 fpW sp_X6_count := by
  intro av S K h
  unfold sp_X6_count at h
  split at h
  · rename_i w; exact ⟨some (.int (S.cnt w)), S, trivial, con_X6_count S w h.1, h.2⟩
  · exact h.elim
