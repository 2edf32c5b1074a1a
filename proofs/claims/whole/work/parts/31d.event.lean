/-! ===== the reference: foreseeing an event ===== -/
theorem aW_F4 : (∀ (S : ST) (M : MT) (fl : Bool), getF (aW (S, M, fl)) 7 0 4 = some (.int (sn (S, M, fl)))) ∧ (∀ (S : ST) (M : MT), sn (S, M, false) = M.seen) := ⟨fun _ _ _ => rfl, fun _ _ => rfl⟩
def aW_p7_4 (q : QT) (id : Nat) (x : Int32) : Option QT := if id = 0 ∧ q.2.2 = false then some (q.1, q.2.1.sSeen x, false) else none
theorem aW_p7_4_ok : putOk aW 7 4 aW_p7_4 := by
  intro S id x S' h
  obtain ⟨S, M, fl⟩ := S
  unfold aW_p7_4 at h
  by_cases h1 : id = 0 ∧ fl = false
  · obtain ⟨rfl, rfl⟩ := h1
    rw [if_pos ⟨rfl, rfl⟩] at h
    cases h
    exact ⟨_, rfl, Nat.le_of_ble_eq_true rfl, rfl⟩
  · rw [if_neg h1] at h
    cases h
theorem aW_P4 : ∀ (S : ST) (M : MT) (x : Int32), aW_p7_4 (S, M, false) 0 x = some (S, M.sSeen x, false) := fun _ _ _ => rfl
theorem tb_i {x y : Int32} {k : Int32} (hx : x = 0 ∨ x = 1) (hy : y = 0 ∨ y = 1) : (x ||| y = 0) = (x = 0 ∧ y = 0) := by
  rcases hx with rfl | rfl <;> rcases hy with rfl | rfl <;> decide
theorem lay_s : (∀ (M : MT) (S : ST) (x : Int32), ((M.lay S).sSeen x).aside = (M.lay S).aside) ∧ (∀ (M : MT) (S : ST) (x y : Int32), ((M.lay S).sSeen x).sSeen y = (M.lay S).sSeen y) := ⟨fun _ _ _ => rfl, fun _ _ _ _ => rfl⟩
def cod_X7_foreseeEvent : List (Nat × Op QT) := [(0, O_iload 1 1), (1, O_i2l), (2, O_long 0 1), (3, O_long 7 3), (6, O_callS 3 sp_X7_in), (9, O_if_ne 15), (12, O_int (-1000001) 2), (14, O_iret), (15, O_aload 0 1), (16, O_callV 0 0 (fun S => S) (fun _ S' => S') spa_X7_layAside), (19, O_aload 0 1), (20, O_int 0 1), (21, O_puti aW_p7_4), (24, O_int 0 1), (25, O_istore 2 1), (26, O_iload 2 1), (27, O_int 1440 3), (30, O_icmp_ge 54), (33, O_aload 0 1), (34, O_getf aW 7 4), (37, O_iload 1 1), (38, O_ishr), (39, O_int 1 1), (40, O_iand), (41, O_if_ne 54), (44, O_aload 0 1), (45, O_callV 0 0 (fun S => S) (fun _ S' => S') sp_X7_minute), (48, O_iinc 2 1), (51, O_goto 26), (54, O_aload 0 1), (55, O_callV 0 0 (fun S => S) (fun _ S' => S') spa_X7_takeBack), (58, O_aload 0 1), (59, O_getf aW 7 4), (62, O_iload 1 1), (63, O_ishr), (64, O_int 1 1), (65, O_iand), (66, O_if_ne 74), (69, O_int (-1000004) 2), (71, O_goto 75), (74, O_iload 2 1), (75, O_iret)]
abbrev cut_X7_foreseeEvent : List Nat := [26, 54]
set_option maxRecDepth 100000 in
theorem okc_X7_foreseeEvent {E : En} (F : Fx E RX7 cX7_foreseeEvent 3 7) (G : Fr E (some .int)) : CodOk E aW cod_X7_foreseeEvent := by
  unfold CodOk cod_X7_foreseeEvent
  refine List.forall_mem_cons.mpr ⟨ok_iload_n F dX7_foreseeEvent_0 rfl (by decide), ?_⟩
  refine List.forall_mem_cons.mpr ⟨ok_i2l F dX7_foreseeEvent_1 (by decide), ?_⟩
  refine List.forall_mem_cons.mpr ⟨ok_lconst F dX7_foreseeEvent_2 (by decide) (by decide), ?_⟩
  refine List.forall_mem_cons.mpr ⟨ok_ldc2 F (ix := 227) (wsHas_mem (l := [Jvm.Cond.constantLong RX7 227 7]) (by decide +kernel) (by simp)) dX7_foreseeEvent_3 (by decide), ?_⟩
  refine List.forall_mem_cons.mpr ⟨ok_callS F spok_X7_in (by decide +kernel) rfl (by decide) dX7_foreseeEvent_6 (by decide), ?_⟩
  refine List.forall_mem_cons.mpr ⟨ok_if_ne F dX7_foreseeEvent_9 (by decide) (by decide) (by decide), ?_⟩
  refine List.forall_mem_cons.mpr ⟨ok_ldc F (ix := 62) (wsHas_mem (l := [Jvm.Cond.constant RX7 62 (-1000001)]) (by decide +kernel) (by simp)) dX7_foreseeEvent_12 (by decide), ?_⟩
  refine List.forall_mem_cons.mpr ⟨ok_iret F G dX7_foreseeEvent_14 (by decide), ?_⟩
  refine List.forall_mem_cons.mpr ⟨ok_aload_n F dX7_foreseeEvent_15 rfl (by decide), ?_⟩
  refine List.forall_mem_cons.mpr ⟨ok_callV F spoka_X7_layAside (ln_id aW) rcv_aW (by decide +kernel) (by decide) dX7_foreseeEvent_16 (by decide), ?_⟩
  refine List.forall_mem_cons.mpr ⟨ok_aload_n F dX7_foreseeEvent_19 rfl (by decide), ?_⟩
  refine List.forall_mem_cons.mpr ⟨ok_iconst F dX7_foreseeEvent_20 (by decide) (by decide), ?_⟩
  refine List.forall_mem_cons.mpr ⟨ok_puti F aW_p7_4_ok (fun _ _ _ h => by cases h; rfl) rfl flX7_102 dX7_foreseeEvent_21 (by decide), ?_⟩
  refine List.forall_mem_cons.mpr ⟨ok_iconst F dX7_foreseeEvent_24 (by decide) (by decide), ?_⟩
  refine List.forall_mem_cons.mpr ⟨ok_istore_n F dX7_foreseeEvent_25 rfl (by decide) (by decide), ?_⟩
  refine List.forall_mem_cons.mpr ⟨ok_iload_n F dX7_foreseeEvent_26 rfl (by decide), ?_⟩
  refine List.forall_mem_cons.mpr ⟨ok_sipush F dX7_foreseeEvent_27 (by decide) (by decide), ?_⟩
  refine List.forall_mem_cons.mpr ⟨ok_icmp_ge F dX7_foreseeEvent_30 (by decide) (by decide) (by decide), ?_⟩
  refine List.forall_mem_cons.mpr ⟨ok_aload_n F dX7_foreseeEvent_33 rfl (by decide), ?_⟩
  refine List.forall_mem_cons.mpr ⟨ok_getf F flX7_102 dX7_foreseeEvent_34 (by decide), ?_⟩
  refine List.forall_mem_cons.mpr ⟨ok_iload_n F dX7_foreseeEvent_37 rfl (by decide), ?_⟩
  refine List.forall_mem_cons.mpr ⟨ok_ishr F dX7_foreseeEvent_38 (by decide), ?_⟩
  refine List.forall_mem_cons.mpr ⟨ok_iconst F dX7_foreseeEvent_39 (by decide) (by decide), ?_⟩
  refine List.forall_mem_cons.mpr ⟨ok_iand F dX7_foreseeEvent_40 (by decide), ?_⟩
  refine List.forall_mem_cons.mpr ⟨ok_if_ne F dX7_foreseeEvent_41 (by decide) (by decide) (by decide), ?_⟩
  refine List.forall_mem_cons.mpr ⟨ok_aload_n F dX7_foreseeEvent_44 rfl (by decide), ?_⟩
  refine List.forall_mem_cons.mpr ⟨ok_callV F spok_X7_minute (ln_id aW) rcv_aW (by decide +kernel) (by decide) dX7_foreseeEvent_45 (by decide), ?_⟩
  refine List.forall_mem_cons.mpr ⟨ok_iinc F dX7_foreseeEvent_48 (by decide) (by decide) (by decide), ?_⟩
  refine List.forall_mem_cons.mpr ⟨ok_goto F dX7_foreseeEvent_51 (by decide) (by decide) (by decide), ?_⟩
  refine List.forall_mem_cons.mpr ⟨ok_aload_n F dX7_foreseeEvent_54 rfl (by decide), ?_⟩
  refine List.forall_mem_cons.mpr ⟨ok_callV F spoka_X7_takeBack (ln_id aW) rcv_aW (by decide +kernel) (by decide) dX7_foreseeEvent_55 (by decide), ?_⟩
  refine List.forall_mem_cons.mpr ⟨ok_aload_n F dX7_foreseeEvent_58 rfl (by decide), ?_⟩
  refine List.forall_mem_cons.mpr ⟨ok_getf F flX7_102 dX7_foreseeEvent_59 (by decide), ?_⟩
  refine List.forall_mem_cons.mpr ⟨ok_iload_n F dX7_foreseeEvent_62 rfl (by decide), ?_⟩
  refine List.forall_mem_cons.mpr ⟨ok_ishr F dX7_foreseeEvent_63 (by decide), ?_⟩
  refine List.forall_mem_cons.mpr ⟨ok_iconst F dX7_foreseeEvent_64 (by decide) (by decide), ?_⟩
  refine List.forall_mem_cons.mpr ⟨ok_iand F dX7_foreseeEvent_65 (by decide), ?_⟩
  refine List.forall_mem_cons.mpr ⟨ok_if_ne F dX7_foreseeEvent_66 (by decide) (by decide) (by decide), ?_⟩
  refine List.forall_mem_cons.mpr ⟨ok_ldc F (ix := 136) (wsHas_mem (l := [Jvm.Cond.constant RX7 136 (-1000004)]) (by decide +kernel) (by simp)) dX7_foreseeEvent_69 (by decide), ?_⟩
  refine List.forall_mem_cons.mpr ⟨ok_goto F dX7_foreseeEvent_71 (by decide) (by decide) (by decide), ?_⟩
  refine List.forall_mem_cons.mpr ⟨ok_iload_n F dX7_foreseeEvent_74 rfl (by decide), ?_⟩
  refine List.forall_mem_cons.mpr ⟨ok_iret F G dX7_foreseeEvent_75 (by decide), ?_⟩
  exact fun _ h => absurd h List.not_mem_nil
set_option maxRecDepth 100000 in
theorem w_X7_foreseeEvent : (∀ (K : Kt QT) (n : Nat) (L : xL) (st : List Value) (S : QT), nx cod_X7_foreseeEvent cut_X7_foreseeEvent K (n + 1) 0 L st S = (O_iload 1 1) (nx cod_X7_foreseeEvent cut_X7_foreseeEvent K n) 0 L st S) ∧
  (∀ (K : Kt QT) (n : Nat) (L : xL) (st : List Value) (S : QT), nx cod_X7_foreseeEvent cut_X7_foreseeEvent K (n + 1) 1 L st S = (O_i2l) (nx cod_X7_foreseeEvent cut_X7_foreseeEvent K n) 1 L st S) ∧
  (∀ (K : Kt QT) (n : Nat) (L : xL) (st : List Value) (S : QT), nx cod_X7_foreseeEvent cut_X7_foreseeEvent K (n + 1) 2 L st S = (O_long 0 1) (nx cod_X7_foreseeEvent cut_X7_foreseeEvent K n) 2 L st S) ∧
  (∀ (K : Kt QT) (n : Nat) (L : xL) (st : List Value) (S : QT), nx cod_X7_foreseeEvent cut_X7_foreseeEvent K (n + 1) 3 L st S = (O_long 7 3) (nx cod_X7_foreseeEvent cut_X7_foreseeEvent K n) 3 L st S) ∧
  (∀ (K : Kt QT) (n : Nat) (L : xL) (st : List Value) (S : QT), nx cod_X7_foreseeEvent cut_X7_foreseeEvent K (n + 1) 6 L st S = (O_callS 3 sp_X7_in) (nx cod_X7_foreseeEvent cut_X7_foreseeEvent K n) 6 L st S) ∧
  (∀ (K : Kt QT) (n : Nat) (L : xL) (st : List Value) (S : QT), nx cod_X7_foreseeEvent cut_X7_foreseeEvent K (n + 1) 9 L st S = (O_if_ne 15) (nx cod_X7_foreseeEvent cut_X7_foreseeEvent K n) 9 L st S) ∧
  (∀ (K : Kt QT) (n : Nat) (L : xL) (st : List Value) (S : QT), nx cod_X7_foreseeEvent cut_X7_foreseeEvent K (n + 1) 12 L st S = (O_int (-1000001) 2) (nx cod_X7_foreseeEvent cut_X7_foreseeEvent K n) 12 L st S) ∧
  (∀ (K : Kt QT) (n : Nat) (L : xL) (st : List Value) (S : QT), nx cod_X7_foreseeEvent cut_X7_foreseeEvent K (n + 1) 14 L st S = (O_iret) (nx cod_X7_foreseeEvent cut_X7_foreseeEvent K n) 14 L st S) ∧
  (∀ (K : Kt QT) (n : Nat) (L : xL) (st : List Value) (S : QT), nx cod_X7_foreseeEvent cut_X7_foreseeEvent K (n + 1) 15 L st S = (O_aload 0 1) (nx cod_X7_foreseeEvent cut_X7_foreseeEvent K n) 15 L st S) ∧
  (∀ (K : Kt QT) (n : Nat) (L : xL) (st : List Value) (S : QT), nx cod_X7_foreseeEvent cut_X7_foreseeEvent K (n + 1) 16 L st S = (O_callV 0 0 (fun S => S) (fun _ S' => S') spa_X7_layAside) (nx cod_X7_foreseeEvent cut_X7_foreseeEvent K n) 16 L st S) ∧
  (∀ (K : Kt QT) (n : Nat) (L : xL) (st : List Value) (S : QT), nx cod_X7_foreseeEvent cut_X7_foreseeEvent K (n + 1) 19 L st S = (O_aload 0 1) (nx cod_X7_foreseeEvent cut_X7_foreseeEvent K n) 19 L st S) ∧
  (∀ (K : Kt QT) (n : Nat) (L : xL) (st : List Value) (S : QT), nx cod_X7_foreseeEvent cut_X7_foreseeEvent K (n + 1) 20 L st S = (O_int 0 1) (nx cod_X7_foreseeEvent cut_X7_foreseeEvent K n) 20 L st S) ∧
  (∀ (K : Kt QT) (n : Nat) (L : xL) (st : List Value) (S : QT), nx cod_X7_foreseeEvent cut_X7_foreseeEvent K (n + 1) 21 L st S = (O_puti aW_p7_4) (nx cod_X7_foreseeEvent cut_X7_foreseeEvent K n) 21 L st S) ∧
  (∀ (K : Kt QT) (n : Nat) (L : xL) (st : List Value) (S : QT), nx cod_X7_foreseeEvent cut_X7_foreseeEvent K (n + 1) 24 L st S = (O_int 0 1) (nx cod_X7_foreseeEvent cut_X7_foreseeEvent K n) 24 L st S) ∧
  (∀ (K : Kt QT) (n : Nat) (L : xL) (st : List Value) (S : QT), nx cod_X7_foreseeEvent cut_X7_foreseeEvent K (n + 1) 25 L st S = (O_istore 2 1) (nx cod_X7_foreseeEvent cut_X7_foreseeEvent K n) 25 L st S) ∧
  (∀ (K : Kt QT) (n : Nat) (L : xL) (st : List Value) (S : QT), nx cod_X7_foreseeEvent cut_X7_foreseeEvent K (n + 1) 26 L st S = K 26 L st S) ∧
  (∀ (K : Kt QT) (n : Nat) (L : xL) (st : List Value) (S : QT), nx1 cod_X7_foreseeEvent cut_X7_foreseeEvent K n 26 L st S = (O_iload 2 1) (nx cod_X7_foreseeEvent cut_X7_foreseeEvent K n) 26 L st S) ∧
  (∀ (K : Kt QT) (n : Nat) (L : xL) (st : List Value) (S : QT), nx cod_X7_foreseeEvent cut_X7_foreseeEvent K (n + 1) 27 L st S = (O_int 1440 3) (nx cod_X7_foreseeEvent cut_X7_foreseeEvent K n) 27 L st S) ∧
  (∀ (K : Kt QT) (n : Nat) (L : xL) (st : List Value) (S : QT), nx cod_X7_foreseeEvent cut_X7_foreseeEvent K (n + 1) 30 L st S = (O_icmp_ge 54) (nx cod_X7_foreseeEvent cut_X7_foreseeEvent K n) 30 L st S) ∧
  (∀ (K : Kt QT) (n : Nat) (L : xL) (st : List Value) (S : QT), nx cod_X7_foreseeEvent cut_X7_foreseeEvent K (n + 1) 33 L st S = (O_aload 0 1) (nx cod_X7_foreseeEvent cut_X7_foreseeEvent K n) 33 L st S) ∧
  (∀ (K : Kt QT) (n : Nat) (L : xL) (st : List Value) (S : QT), nx cod_X7_foreseeEvent cut_X7_foreseeEvent K (n + 1) 34 L st S = (O_getf aW 7 4) (nx cod_X7_foreseeEvent cut_X7_foreseeEvent K n) 34 L st S) ∧
  (∀ (K : Kt QT) (n : Nat) (L : xL) (st : List Value) (S : QT), nx cod_X7_foreseeEvent cut_X7_foreseeEvent K (n + 1) 37 L st S = (O_iload 1 1) (nx cod_X7_foreseeEvent cut_X7_foreseeEvent K n) 37 L st S) ∧
  (∀ (K : Kt QT) (n : Nat) (L : xL) (st : List Value) (S : QT), nx cod_X7_foreseeEvent cut_X7_foreseeEvent K (n + 1) 38 L st S = (O_ishr) (nx cod_X7_foreseeEvent cut_X7_foreseeEvent K n) 38 L st S) ∧
  (∀ (K : Kt QT) (n : Nat) (L : xL) (st : List Value) (S : QT), nx cod_X7_foreseeEvent cut_X7_foreseeEvent K (n + 1) 39 L st S = (O_int 1 1) (nx cod_X7_foreseeEvent cut_X7_foreseeEvent K n) 39 L st S) ∧
  (∀ (K : Kt QT) (n : Nat) (L : xL) (st : List Value) (S : QT), nx cod_X7_foreseeEvent cut_X7_foreseeEvent K (n + 1) 40 L st S = (O_iand) (nx cod_X7_foreseeEvent cut_X7_foreseeEvent K n) 40 L st S) ∧
  (∀ (K : Kt QT) (n : Nat) (L : xL) (st : List Value) (S : QT), nx cod_X7_foreseeEvent cut_X7_foreseeEvent K (n + 1) 41 L st S = (O_if_ne 54) (nx cod_X7_foreseeEvent cut_X7_foreseeEvent K n) 41 L st S) ∧
  (∀ (K : Kt QT) (n : Nat) (L : xL) (st : List Value) (S : QT), nx cod_X7_foreseeEvent cut_X7_foreseeEvent K (n + 1) 44 L st S = (O_aload 0 1) (nx cod_X7_foreseeEvent cut_X7_foreseeEvent K n) 44 L st S) ∧
  (∀ (K : Kt QT) (n : Nat) (L : xL) (st : List Value) (S : QT), nx cod_X7_foreseeEvent cut_X7_foreseeEvent K (n + 1) 45 L st S = (O_callV 0 0 (fun S => S) (fun _ S' => S') sp_X7_minute) (nx cod_X7_foreseeEvent cut_X7_foreseeEvent K n) 45 L st S) ∧
  (∀ (K : Kt QT) (n : Nat) (L : xL) (st : List Value) (S : QT), nx cod_X7_foreseeEvent cut_X7_foreseeEvent K (n + 1) 48 L st S = (O_iinc 2 1) (nx cod_X7_foreseeEvent cut_X7_foreseeEvent K n) 48 L st S) ∧
  (∀ (K : Kt QT) (n : Nat) (L : xL) (st : List Value) (S : QT), nx cod_X7_foreseeEvent cut_X7_foreseeEvent K (n + 1) 51 L st S = (O_goto 26) (nx cod_X7_foreseeEvent cut_X7_foreseeEvent K n) 51 L st S) ∧
  (∀ (K : Kt QT) (n : Nat) (L : xL) (st : List Value) (S : QT), nx cod_X7_foreseeEvent cut_X7_foreseeEvent K (n + 1) 54 L st S = K 54 L st S) ∧
  (∀ (K : Kt QT) (n : Nat) (L : xL) (st : List Value) (S : QT), nx1 cod_X7_foreseeEvent cut_X7_foreseeEvent K n 54 L st S = (O_aload 0 1) (nx cod_X7_foreseeEvent cut_X7_foreseeEvent K n) 54 L st S) ∧
  (∀ (K : Kt QT) (n : Nat) (L : xL) (st : List Value) (S : QT), nx cod_X7_foreseeEvent cut_X7_foreseeEvent K (n + 1) 55 L st S = (O_callV 0 0 (fun S => S) (fun _ S' => S') spa_X7_takeBack) (nx cod_X7_foreseeEvent cut_X7_foreseeEvent K n) 55 L st S) ∧
  (∀ (K : Kt QT) (n : Nat) (L : xL) (st : List Value) (S : QT), nx cod_X7_foreseeEvent cut_X7_foreseeEvent K (n + 1) 58 L st S = (O_aload 0 1) (nx cod_X7_foreseeEvent cut_X7_foreseeEvent K n) 58 L st S) ∧
  (∀ (K : Kt QT) (n : Nat) (L : xL) (st : List Value) (S : QT), nx cod_X7_foreseeEvent cut_X7_foreseeEvent K (n + 1) 59 L st S = (O_getf aW 7 4) (nx cod_X7_foreseeEvent cut_X7_foreseeEvent K n) 59 L st S) ∧
  (∀ (K : Kt QT) (n : Nat) (L : xL) (st : List Value) (S : QT), nx cod_X7_foreseeEvent cut_X7_foreseeEvent K (n + 1) 62 L st S = (O_iload 1 1) (nx cod_X7_foreseeEvent cut_X7_foreseeEvent K n) 62 L st S) ∧
  (∀ (K : Kt QT) (n : Nat) (L : xL) (st : List Value) (S : QT), nx cod_X7_foreseeEvent cut_X7_foreseeEvent K (n + 1) 63 L st S = (O_ishr) (nx cod_X7_foreseeEvent cut_X7_foreseeEvent K n) 63 L st S) ∧
  (∀ (K : Kt QT) (n : Nat) (L : xL) (st : List Value) (S : QT), nx cod_X7_foreseeEvent cut_X7_foreseeEvent K (n + 1) 64 L st S = (O_int 1 1) (nx cod_X7_foreseeEvent cut_X7_foreseeEvent K n) 64 L st S) ∧
  (∀ (K : Kt QT) (n : Nat) (L : xL) (st : List Value) (S : QT), nx cod_X7_foreseeEvent cut_X7_foreseeEvent K (n + 1) 65 L st S = (O_iand) (nx cod_X7_foreseeEvent cut_X7_foreseeEvent K n) 65 L st S) ∧
  (∀ (K : Kt QT) (n : Nat) (L : xL) (st : List Value) (S : QT), nx cod_X7_foreseeEvent cut_X7_foreseeEvent K (n + 1) 66 L st S = (O_if_ne 74) (nx cod_X7_foreseeEvent cut_X7_foreseeEvent K n) 66 L st S) ∧
  (∀ (K : Kt QT) (n : Nat) (L : xL) (st : List Value) (S : QT), nx cod_X7_foreseeEvent cut_X7_foreseeEvent K (n + 1) 69 L st S = (O_int (-1000004) 2) (nx cod_X7_foreseeEvent cut_X7_foreseeEvent K n) 69 L st S) ∧
  (∀ (K : Kt QT) (n : Nat) (L : xL) (st : List Value) (S : QT), nx cod_X7_foreseeEvent cut_X7_foreseeEvent K (n + 1) 71 L st S = (O_goto 75) (nx cod_X7_foreseeEvent cut_X7_foreseeEvent K n) 71 L st S) ∧
  (∀ (K : Kt QT) (n : Nat) (L : xL) (st : List Value) (S : QT), nx cod_X7_foreseeEvent cut_X7_foreseeEvent K (n + 1) 74 L st S = (O_iload 2 1) (nx cod_X7_foreseeEvent cut_X7_foreseeEvent K n) 74 L st S) ∧
  (∀ (K : Kt QT) (n : Nat) (L : xL) (st : List Value) (S : QT), nx cod_X7_foreseeEvent cut_X7_foreseeEvent K (n + 1) 75 L st S = (O_iret) (nx cod_X7_foreseeEvent cut_X7_foreseeEvent K n) 75 L st S) ∧
  (∀ (K : Kt QT) (n : Nat) (L : xL) (st : List Value) (S : QT), nx cod_X7_foreseeEvent cut_X7_foreseeEvent K (n + 1) 100000 L st S = K 100000 L st S) := by
  repeat' apply And.intro
  all_goals (intros; rfl)
set_option maxRecDepth 100000 in
theorem mk_X7_foreseeEvent {P P' : QT} {r : Option Value} {p0 : Int32} (body : ∀ E : En, CodOk E aW cod_X7_foreseeEvent → Gd E aW 100000 [] r.toList P' → Gd E aW 0 [some (.ref 0), some (.int p0), none] [] P) : Con yX7_foreseeEvent cX7_foreseeEvent 3 (some .int) 7 aW [.ref 0, .int p0] P r P' :=
  Con.of (by decide) ((aW_len P').trans (aW_len P).symm) rfl (Nat.le_of_ble_eq_true rfl) (fun E F G hr => body E (okc_X7_foreseeEvent F G) hr)
set_option maxRecDepth 10000 in
theorem con_X7_foreseeEvent (S : ST) (M : MT) (fl : Bool) (k : Int32) (hp : S.inv 40000 ∧ fl = false) : Con yX7_foreseeEvent cX7_foreseeEvent 3 (some .int) 7 aW [.ref 0, .int k] (S, M, fl) (some (.int (if inR k 0 7 = false then -1000001 else whenI (S.when k.toNatClampNeg)))) ((if inR k 0 7 = true then (S, (M.lay S).sSeen (sawN S 0 (whenN (S.when k.toNatClampNeg))), false) else (S, M, fl))) := by
  refine mk_X7_foreseeEvent (fun E C hr => ?_)
  obtain ⟨hi, rfl⟩ := hp
  by_cases c : inR k 0 7 = true
  · rw [if_neg (by rw [c]; decide), if_pos c] at hr
    have hv : vp_in k 8 := by
      obtain ⟨hm, hb⟩ := inR_n c (by decide) (by decide)
      simp only [inR, decide_eq_true_eq] at c
      have h7 := c.2
      rw [hm, show (7 : Int32) = nI 7 from rfl, nI_ltI (by omega) (by omega)] at h7
      rw [hm]
      exact vp_in_nI (by omega) (by omega)
    have hs : ∀ i, tb (sawN S 0 (i + 1)) k = tb (sawN S 0 i) k ||| bI (decide ((S.mins (i + 1)).E.latest k.toNatClampNeg = (S.mins (i + 1)).time)) := fun i => by
      rw [sawN_s, tb_or, tb_mask _ hv]
    have h54 : ∀ (T : ST) (x n r : Int32), (if tb x k = 0 then -1000004 else n) = r → Gd E aW 100000 [] [.int r] (S, (M.lay S).sSeen x, false) → Gd E aW 54 [some (.ref 0), some (.int k), some (.int n)] [] (T, (M.lay S).sSeen x, false) := by
      intro T x n r hr1 hr2
      subst hr1
      clear hr hs hi hv
      refine nx1_ok C cut_X7_foreseeEvent 1000 ?_
      by_cases d : tb x k = 0
      · rw [if_pos d] at hr2
        have d2 : (x >>> (k &&& 31)) &&& 1 = 0 := d
        clear d
        (simp only [w_X7_foreseeEvent, ops_eq, xst_eq, call_eq, oK_eq, Option.toList_some, Option.toList_none, List.cons_append, List.nil_append, List.length_cons, List.length_nil, true_and, and_true, Nat.reduceAdd, aW_F, aW_A, aW_P, aW_w, abs_eq, O_asti_eq, v170, cl_eq, ST_id, MT_gs, ST_gs, PT_gs, ZT_gs, NT_gs, ET_gs, se_X7_in, sea_X7_layAside, se_X7_minute, sea_X7_takeBack, d2, lay_s, aW_F4])
        (repeat' (with_reducible first | apply And.intro | intro _)) <;> first | (with_reducible exact Nat.zero_le _) | contradiction | (refine ⟨S, lay_at M S, ?_⟩; ((repeat' (with_reducible first | apply And.intro | intro _)) <;> first | (with_reducible assumption) | (with_reducible exact Nat.zero_le _) | contradiction | (simp only [Option.toList_none, Option.toList_some] at hr; with_reducible assumption) | (simp_all; done) | assumption))
      · rw [if_neg d] at hr2
        have d2 : ¬ (x >>> (k &&& 31)) &&& 1 = 0 := d
        clear d
        (simp only [w_X7_foreseeEvent, ops_eq, xst_eq, call_eq, oK_eq, Option.toList_some, Option.toList_none, List.cons_append, List.nil_append, List.length_cons, List.length_nil, true_and, and_true, Nat.reduceAdd, aW_F, aW_A, aW_P, aW_w, abs_eq, O_asti_eq, v170, cl_eq, ST_id, MT_gs, ST_gs, PT_gs, ZT_gs, NT_gs, ET_gs, se_X7_in, sea_X7_layAside, se_X7_minute, sea_X7_takeBack, d2, lay_s, aW_F4])
        (repeat' (with_reducible first | apply And.intro | intro _)) <;> first | (with_reducible exact Nat.zero_le _) | contradiction | (refine ⟨S, lay_at M S, ?_⟩; ((repeat' (with_reducible first | apply And.intro | intro _)) <;> first | (with_reducible assumption) | (with_reducible exact Nat.zero_le _) | contradiction | (simp only [Option.toList_none, Option.toList_some] at hr; with_reducible assumption) | (simp_all; done) | assumption))
    have key : tb (sawN S 0 0) k = 0 → Gd E aW 26 [some (.ref 0), some (.int k), some (.int (nI 0))] [] (S.mins 0, (M.lay S).sSeen (sawN S 0 0), false) := by
      refine fstN_up (c := fun i => decide ((S.mins (i + 1)).E.latest k.toNatClampNeg = (S.mins (i + 1)).time)) (n := 1440) (fun i => tb (sawN S 0 i) k = 0 → Gd E aW 26 [some (.ref 0), some (.int k), some (.int (nI i))] [] (S.mins i, (M.lay S).sSeen (sawN S 0 i), false)) (fun i => i < 1440 → ¬ tb (sawN S 0 (i + 1)) k = 0 → Gd E aW 26 [some (.ref 0), some (.int k), some (.int (nI (i + 1)))] [] (S.mins (i + 1), (M.lay S).sSeen (sawN S 0 (i + 1)), false)) (fun i hin h1 h2 hz => ?_) (fun p h hp1 hz => ?_) (fun h hz => ?_)
      · have hm : (S.mins i).minute = S.mins (i + 1) := (ST.mins_succ _ _).symm
        have hI : (S.mins i).inv 17 := ST.mins_inv i (ST.inv_le hi (by omega))
        have hx : nI i < 1440 ∧ nI i + 1 = nI (i + 1) := ⟨by rw [show (1440 : Int32) = nI 1440 from rfl, nI_ltI (by omega) (by omega)]; exact hin, nI_1 _⟩
        have hsw : ((M.lay S).sSeen (sawN S 0 i)).saw (S.mins (i + 1)) = (M.lay S).sSeen (sawN S 0 (i + 1)) := by rw [saw_s, ← sawN_s]
        have hz2 : (sawN S 0 i >>> (k &&& 31)) &&& 1 = 0 := hz
        have hn : Gd E aW 26 [some (.ref 0), some (.int k), some (.int (nI (i + 1)))] [] (S.mins (i + 1), (M.lay S).sSeen (sawN S 0 (i + 1)), false) := by
          have hs2 := hs i
          rw [hz] at hs2
          cases d : decide ((S.mins (i + 1)).E.latest k.toNatClampNeg = (S.mins (i + 1)).time) with
          | true =>
            refine h1 d hin ?_
            rw [hs2, d]
            decide
          | false =>
            refine h2 d ?_
            rw [hs2, d]
            decide
        clear h1 h2 hs h54 hr hi hz hv
        (refine nx1_ok C cut_X7_foreseeEvent 1000 ?_; simp only [w_X7_foreseeEvent, ops_eq, xst_eq, call_eq, oK_eq, Option.toList_some, Option.toList_none, List.cons_append, List.nil_append, List.length_cons, List.length_nil, true_and, and_true, Nat.reduceAdd, aW_F, aW_A, aW_P, aW_w, abs_eq, O_asti_eq, v170, cl_eq, ST_id, MT_gs, ST_gs, PT_gs, ZT_gs, NT_gs, ET_gs, se_X7_in, sea_X7_layAside, se_X7_minute, sea_X7_takeBack, hx, hI, hm, hsw, hz2, aW_F4])
        ((repeat' (with_reducible first | apply And.intro | intro _)) <;> first | (with_reducible assumption) | (with_reducible exact Nat.zero_le _) | exact absurd trivial ‹¬True› | (simp_all [ST_id, MT_gs, ST_gs, PT_gs, ZT_gs, NT_gs, ET_gs]; done) | assumption | simp_all)
      · have hw : S.when k.toNatClampNeg = some p := h
        rw [hw] at hr
        have h5 := h54 (S.mins (p + 1)) (sawN S 0 (p + 1)) (nI (p + 1)) (nI (p + 1)) (if_neg hz) hr
        have hz2 : ¬ (sawN S 0 (p + 1) >>> (k &&& 31)) &&& 1 = 0 := hz
        clear hs h54 hr hi hz hv hw
        (refine nx1_ok C cut_X7_foreseeEvent 1000 ?_; simp only [w_X7_foreseeEvent, ops_eq, xst_eq, call_eq, oK_eq, Option.toList_some, Option.toList_none, List.cons_append, List.nil_append, List.length_cons, List.length_nil, true_and, and_true, Nat.reduceAdd, aW_F, aW_A, aW_P, aW_w, abs_eq, O_asti_eq, v170, cl_eq, ST_id, MT_gs, ST_gs, PT_gs, ZT_gs, NT_gs, ET_gs, se_X7_in, sea_X7_layAside, se_X7_minute, sea_X7_takeBack, hz2, aW_F4])
        ((repeat' (with_reducible first | apply And.intro | intro _)) <;> first | (with_reducible assumption) | (with_reducible exact Nat.zero_le _) | exact absurd trivial ‹¬True› | (simp_all [ST_id, MT_gs, ST_gs, PT_gs, ZT_gs, NT_gs, ET_gs]; done) | assumption | simp_all)
      · have hw : S.when k.toNatClampNeg = none := h
        rw [hw] at hr
        have h5 := h54 (S.mins 1440) (sawN S 0 1440) (nI 1440) (-1000004) (if_pos hz) hr
        clear hs h54 hr hi hz hv hw
        (refine nx1_ok C cut_X7_foreseeEvent 1000 ?_; simp only [w_X7_foreseeEvent, ops_eq, xst_eq, call_eq, oK_eq, Option.toList_some, Option.toList_none, List.cons_append, List.nil_append, List.length_cons, List.length_nil, true_and, and_true, Nat.reduceAdd, aW_F, aW_A, aW_P, aW_w, abs_eq, O_asti_eq, v170, cl_eq, ST_id, MT_gs, ST_gs, PT_gs, ZT_gs, NT_gs, ET_gs, se_X7_in, sea_X7_layAside, se_X7_minute, sea_X7_takeBack, show ¬ nI 1440 < 1440 from by decide, aW_F4])
        ((repeat' (with_reducible first | apply And.intro | intro _)) <;> first | (with_reducible assumption) | (with_reducible exact Nat.zero_le _) | exact absurd trivial ‹¬True› | (simp_all [ST_id, MT_gs, ST_gs, PT_gs, ZT_gs, NT_gs, ET_gs]; done) | assumption | simp_all)
    have key := key (tb_0 _ hv)
    have e0 : S.mins 0 = S := rfl
    have e1 : sawN S 0 0 = 0 := rfl
    rw [e0, e1] at key
    clear h54 hs hr hi hv
    (refine nx_ok C (cuts := cut_X7_foreseeEvent) 1000 _ _ _ _ ?_; simp only [w_X7_foreseeEvent, ops_eq, xst_eq, call_eq, oK_eq, Option.toList_some, Option.toList_none, List.cons_append, List.nil_append, List.length_cons, List.length_nil, true_and, and_true, Nat.reduceAdd, aW_F, aW_A, aW_P, aW_w, abs_eq, O_asti_eq, v170, cl_eq, ST_id, MT_gs, ST_gs, PT_gs, ZT_gs, NT_gs, ET_gs, se_X7_in, sea_X7_layAside, se_X7_minute, sea_X7_takeBack, bI_eq, inL_lit, c, aW_F4, aW_P4])
    ((repeat' (with_reducible first | apply And.intro | intro _)) <;> first | (with_reducible assumption) | (with_reducible exact Nat.zero_le _) | contradiction | (simp only [Option.toList_none, Option.toList_some] at hr; with_reducible assumption) | (simp_all; done) | assumption)
  · have c2 : inR k 0 7 = false := by cases z : inR k 0 7 <;> simp_all
    rw [if_pos c2, if_neg c] at hr
    (refine nx_ok C (cuts := cut_X7_foreseeEvent) 1000 _ _ _ _ ?_; simp only [w_X7_foreseeEvent, ops_eq, xst_eq, call_eq, oK_eq, Option.toList_some, Option.toList_none, List.cons_append, List.nil_append, List.length_cons, List.length_nil, true_and, and_true, Nat.reduceAdd, aW_F, aW_A, aW_P, aW_w, abs_eq, O_asti_eq, v170, cl_eq, ST_id, MT_gs, ST_gs, PT_gs, ZT_gs, NT_gs, ET_gs, se_X7_in, sea_X7_layAside, se_X7_minute, sea_X7_takeBack, bI_eq, inL_lit, c2])
    ((repeat' (with_reducible first | apply And.intro | intro _)) <;> first | (with_reducible assumption) | (with_reducible exact Nat.zero_le _) | exact absurd trivial ‹¬True› | (simp_all [ST_id, MT_gs, ST_gs, PT_gs, ZT_gs, NT_gs, ET_gs]; done) | assumption | simp_all)
def spc_X7_foreseeEvent (S : ST) (M : MT) (fl : Bool) (k : Int32) (K : Option Value → QT → Prop) : Prop := (S.inv 40000 ∧ fl = false) ∧ K (some (.int (if inR k 0 7 = false then -1000001 else whenI (S.when k.toNatClampNeg)))) ((if inR k 0 7 = true then (S, (M.lay S).sSeen (sawN S 0 (whenN (S.when k.toNatClampNeg))), false) else (S, M, fl)))
def sp_X7_foreseeEvent : Sp QT := fun av q K => match av with
  | [.ref 0, .int k] => spc_X7_foreseeEvent q.1 q.2.1 q.2.2 k K
  | _ => False
theorem se_X7_foreseeEvent (S : ST) (M : MT) (fl : Bool) (k : Int32) (K : Option Value → QT → Prop) : sp_X7_foreseeEvent [.ref 0, .int k] (S, M, fl) K = ((S.inv 40000 ∧ fl = false) ∧ K (some (.int (if inR k 0 7 = false then -1000001 else whenI (S.when k.toNatClampNeg)))) ((if inR k 0 7 = true then (S, (M.lay S).sSeen (sawN S 0 (whenN (S.when k.toNatClampNeg))), false) else (S, M, fl)))) := rfl
theorem spok_X7_foreseeEvent : SpOk yX7_foreseeEvent cX7_foreseeEvent 3 (some .int) 7 aW sp_X7_foreseeEvent := by
  intro av q K h
  unfold sp_X7_foreseeEvent at h
  split at h
  · rename_i k; refine ⟨_, _, ?_, con_X7_foreseeEvent q.1 q.2.1 q.2.2 k h.1, h.2⟩; trivial
  · exact h.elim
