/-! ===== the reference: all orders ===== -/
/-- what reading an order leaves -/
def MT.kp (M T : MT) : Prop := T.text = M.text ∧ T.textLong = M.textLong ∧ T.saved = M.saved ∧ T.savedMany = M.savedMany ∧ T.aside = M.aside ∧ T.faultAt = M.faultAt ∧ T.faultReason = M.faultReason ∧ T.done = M.done
/-- what all orders leave -/
def MT.kq (M T : MT) : Prop := T.text = M.text ∧ T.textLong = M.textLong ∧ T.saved = M.saved ∧ T.savedMany = M.savedMany ∧ T.aside = M.aside
theorem kp_tr {A B C : MT} (h : A.kp B) (g : B.kp C) : A.kp C := ⟨g.1.trans h.1, g.2.1.trans h.2.1, g.2.2.1.trans h.2.2.1, g.2.2.2.1.trans h.2.2.2.1, g.2.2.2.2.1.trans h.2.2.2.2.1, g.2.2.2.2.2.1.trans h.2.2.2.2.2.1, g.2.2.2.2.2.2.1.trans h.2.2.2.2.2.2.1, g.2.2.2.2.2.2.2.trans h.2.2.2.2.2.2.2⟩
theorem kq_tr {A B C : MT} (h : A.kq B) (g : B.kq C) : A.kq C := ⟨g.1.trans h.1, g.2.1.trans h.2.1, g.2.2.1.trans h.2.2.1, g.2.2.2.1.trans h.2.2.2.1, g.2.2.2.2.trans h.2.2.2.2⟩
theorem kp_f1 (T : MT) (x y : Int32) : T.kp ((T.sNumber x).sPlace y) := ⟨rfl, rfl, rfl, rfl, rfl, rfl, rfl, rfl⟩
theorem kp_f2 (T : MT) (x y z : Int32) : T.kp (((T.sOrder x).sPlace y).sNumber z) := ⟨rfl, rfl, rfl, rfl, rfl, rfl, rfl, rfl⟩
theorem kp_f3 (T : MT) (x y : Int32) : T.kp ((T.sOrder x).sPlace y) := ⟨rfl, rfl, rfl, rfl, rfl, rfl, rfl, rfl⟩
theorem kp_f4 (T : MT) : T.kp T := ⟨rfl, rfl, rfl, rfl, rfl, rfl, rfl, rfl⟩
theorem kq_f1 (T : MT) (x : Int32) : T.kq (T.sFaultReason x) := ⟨rfl, rfl, rfl, rfl, rfl⟩
theorem kq_f2 (T : MT) (x y z : Int32) : T.kq (((T.sFaultReason x).sSeen y).sDone z) := ⟨rfl, rfl, rfl, rfl, rfl⟩
theorem kq_f3 (T : MT) : T.kq T := ⟨rfl, rfl, rfl, rfl, rfl⟩
theorem kq_f4 (T : MT) (x : Int32) : T.kq (T.sFaultAt x) := ⟨rfl, rfl, rfl, rfl, rfl⟩
theorem kp_f5 (T : MT) (x : Int32) : (T.sFaultAt x).faultAt = x ∧ (T.sFaultAt x).faultReason = T.faultReason ∧ (T.sFaultAt x).done = T.done := ⟨rfl, rfl, rfl⟩
theorem place_f : (∀ (T : MT) (x : Int32), (T.sFaultReason x).place = T.place) ∧ (∀ (T : MT) (x y z : Int32), (((T.sFaultReason x).sSeen y).sDone z).place = T.place) := ⟨fun _ _ => rfl, fun _ _ _ _ => rfl⟩
theorem digs7_kp : ∀ (f : Nat) (T : MT), T.kp (MT.digs7 f T)
  | 0, T => kp_f4 T
  | f + 1, T => by
    unfold MT.digs7
    split
    · exact kp_tr (kp_f1 T _ _) (digs7_kp f _)
    · exact kp_f4 T
theorem rd3_kp (M : MT) : M.kp M.rd3 := by
  have h2 : M.kp M.rd2 := kp_f2 M _ _ _
  unfold MT.rd3
  split
  · exact h2
  · exact kp_tr h2 (digs7_kp 3 _)
theorem sPlace_kp (M : MT) (x : Int32) : M.kp (M.sPlace x) := ⟨rfl, rfl, rfl, rfl, rfl, rfl, rfl, rfl⟩
theorem rdo_kp (M : MT) : M.kp M.rdo.2 := by
  unfold MT.rdo
  split
  · exact kp_f3 M _ _
  · exact kp_tr (rd3_kp M) (sPlace_kp _ _)
theorem rd3_order (M : MT) : M.rd3.order = M.here := by
  unfold MT.rd3
  split
  · rfl
  · exact (digs7_keep 3 M.rd2).2.2.1.trans rfl
theorem rdo_let {M : MT} (h : M.rdo.1 = true) : let5 M.rdo.2.order = true := by
  unfold MT.rdo at h ⊢
  by_cases c : let5 M.here = false
  · rw [if_pos c] at h
    cases h
  · rw [if_neg c]
    show let5 M.rd3.order = true
    rw [rd3_order]
    cases z : let5 M.here
    · exact absurd z c
    · rfl
theorem rdo_place {M : MT} {p : Nat} (h : M.place = nI p) : ∃ k, 1 ≤ k ∧ k ≤ 5 ∧ M.rdo.2.place = nI (p + k) := by
  have h2 : M.rd2.place = nI (p + 1) := by show M.place + 1 = _; rw [h, nI_1]
  unfold MT.rdo
  split
  · exact ⟨1, by omega, by omega, h2⟩
  · have h3 : ∃ k, k ≤ 3 ∧ M.rd3.place = nI (p + 1 + k) := by
      unfold MT.rd3
      split
      · exact ⟨0, by omega, h2⟩
      · obtain ⟨k, hk, e⟩ := (digs7_keep 3 M.rd2).2.2.2 (p + 1) h2
        exact ⟨k, hk, e⟩
    obtain ⟨k, hk, e⟩ := h3
    refine ⟨k + 2, by omega, by omega, ?_⟩
    show M.rd3.place + 1 = _
    rw [e, nI_1]
    congr 1
    omega
def MT.ini (M : MT) : MT := ((M.sFaultReason 0).sDone 0).sPlace 0
def MT.dn (M : MT) (T : ST) : MT := ((M.sFaultReason 0).doM T).sDone (((M.sFaultReason 0).doM T).done + 1)
def MT.rr (M : MT) : MT := (M.sFaultAt M.place).rdo.2
def ordS (T : ST) (M : MT) : ST × MT :=
  if (M.sFaultAt M.place).rdo.1 = false then (T, M.rr.sFaultReason 1) else
  if ¬ (T.order M.rr.order M.rr.number).1 = 0 then (T, M.rr.sFaultReason (T.order M.rr.order M.rr.number).1) else
  ((T.order M.rr.order M.rr.number).2, M.rr.dn T)
def ordR : Nat → ST → MT → ST × MT
  | 0, T, M => (T, M)
  | f + 1, T, M => if M.place < M.textLong ∧ M.faultReason = 0 then ordR f (ordS T M).1 (ordS T M).2 else (T, M)
theorem dn_kq (M : MT) (T : ST) : M.kq (M.dn T) := kq_f2 M 0 _ _
theorem rr_kp (M : MT) : M.kq M.rr ∧ M.rr.faultAt = M.place ∧ M.rr.faultReason = M.faultReason ∧ M.rr.done = M.done := by
  have h := rdo_kp (M.sFaultAt M.place)
  have h2 := kq_f4 M M.place
  have h3 := kp_f5 M M.place
  exact ⟨kq_tr h2 ⟨h.1, h.2.1, h.2.2.1, h.2.2.2.1, h.2.2.2.2.1⟩, h.2.2.2.2.2.1.trans h3.1, h.2.2.2.2.2.2.1.trans h3.2.1, h.2.2.2.2.2.2.2.trans h3.2.2⟩
theorem ordS_kq (T : ST) (M : MT) : M.kq (ordS T M).2 := by
  unfold ordS
  split
  · exact kq_tr (rr_kp M).1 (kq_f1 _ _)
  · split
    · exact kq_tr (rr_kp M).1 (kq_f1 _ _)
    · exact kq_tr (rr_kp M).1 (dn_kq _ _)
theorem ordR_kq : ∀ (f : Nat) (T : ST) (M : MT), M.kq (ordR f T M).2
  | 0, T, M => kq_f3 M
  | f + 1, T, M => by
    unfold ordR
    split
    · exact kq_tr (ordS_kq T M) (ordR_kq f _ _)
    · exact kq_f3 M
theorem ordS_place {T : ST} {M : MT} {p : Nat} (h : M.place = nI p) : ∃ k, 1 ≤ k ∧ k ≤ 5 ∧ (ordS T M).2.place = nI (p + k) := by
  have hr : ∃ k, 1 ≤ k ∧ k ≤ 5 ∧ M.rr.place = nI (p + k) := rdo_place (M := M.sFaultAt M.place) h
  obtain ⟨k, h1, h2, h3⟩ := hr
  refine ⟨k, h1, h2, ?_⟩
  unfold ordS
  split
  · rw [place_f.1]; exact h3
  · split
    · rw [place_f.1]; exact h3
    · exact (place_f.2 M.rr 0 _ _).trans h3
theorem ST.change_inv {S : ST} {n : Nat} {p : Int32} (h : S.inv (n + 1)) (hh : S.P.has p = true) {is : Int32} (hi : b01 is) : (S.change p is).inv n := by
  have h1 : (S.chg p is).inv (n + 1) := ST.sP_inv h (PT.serv_inv h.1 hh hi)
  unfold ST.change
  split
  · exact ST.stop_inv h1 p
  · exact ST.inv_le h1 (by omega)
theorem ST.sZ_inv {S : ST} {n : Nat} (h : S.inv n) {x : ZT} (hx : x.inv) : (S.sZ x).inv n := ⟨h.1, hx, h.2.2⟩
theorem ST.order_inv {T : ST} {n : Nat} {l k : Int32} (h : T.inv (n + 5000)) : (T.order l k).2.inv n := by
  have h0 : T.inv n := ST.inv_le h (by omega)
  unfold ST.order
  split
  · unfold ST.tStop
    split
    · exact h0
    · rename_i c
      split
      · exact h0
      · exact ST.change_inv (ST.inv_le h (by omega)) (by cases z : T.P.has k <;> simp_all) (Or.inl rfl)
  · split
    · unfold ST.tReset
      split
      · exact h0
      · exact ST.goOn_inv (ST.trips_inv (ST.inv_le h (by omega)) 0)
    · split
      · unfold ST.tPass
        split
        · rename_i c
          have := (inR_cl (b := 240) c.1 (by omega)).2
          exact ST.mins_inv _ (ST.inv_le h (by omega))
        · exact h0
      · unfold ST.tZone
        split
        · exact h0
        · rename_i c
          split
          · exact h0
          · have hh : T.Z.has k = true := by cases z : T.Z.has k <;> simp_all
            obtain ⟨i, hi, e1, e2⟩ := ZT.has_n h.2.1.1 hh
            rw [e2]
            exact ST.sZ_inv h0 (ZT.set_inv h.2.1 hi (b01_bI _))
theorem ordS_inv {T : ST} {M : MT} {n : Nat} (h : T.inv (n + 5000)) : (ordS T M).1.inv n := by
  unfold ordS
  split
  · exact ST.inv_le h (by omega)
  · split
    · exact ST.inv_le h (by omega)
    · exact ST.order_inv h
theorem flX7_261 : fldOk RX7 261 7 11 = true := by decide +kernel
theorem flX7_264 : fldOk RX7 264 7 12 = true := by decide +kernel
theorem flX7_267 : fldOk RX7 267 7 10 = true := by decide +kernel
def cod_X7_doOrders : List (Nat × Op QT) := [(0, O_aload 0 1), (1, O_int 0 1), (2, O_puti aW_p7_11), (5, O_aload 0 1), (6, O_int 0 1), (7, O_puti aW_p7_12), (10, O_aload 0 1), (11, O_int 0 1), (12, O_puti aW_p7_7), (15, O_aload 0 1), (16, O_getf aW 7 7), (19, O_aload 0 1), (20, O_getf aW 7 6), (23, O_icmp_ge 84), (26, O_aload 0 1), (27, O_getf aW 7 11), (30, O_if_ne 84), (33, O_aload 0 1), (34, O_aload 0 1), (35, O_getf aW 7 7), (38, O_puti aW_p7_10), (41, O_aload 0 1), (42, O_aload 0 1), (43, O_callV 0 0 (fun S => S) (fun _ S' => S') sp_X7_readsOrder), (46, O_if_eq 56), (49, O_aload 0 1), (50, O_callV 0 0 (fun S => S) (fun _ S' => S') sp_X7_reasonOfOrder), (53, O_goto 57), (56, O_int 1 1), (57, O_puti aW_p7_11), (60, O_aload 0 1), (61, O_getf aW 7 11), (64, O_if_ne 15), (67, O_aload 0 1), (68, O_callV 0 0 (fun S => S) (fun _ S' => S') sp_X7_does), (71, O_aload 0 1), (72, O_dup), (73, O_getf aW 7 12), (76, O_int 1 1), (77, O_iadd), (78, O_puti aW_p7_12), (81, O_goto 15), (84, O_vret)]
abbrev cut_X7_doOrders : List Nat := [15]
set_option maxRecDepth 100000 in
theorem okc_X7_doOrders {E : En} (F : Fx E RX7 cX7_doOrders 1 9) (G : Fr E none) : CodOk E aW cod_X7_doOrders := by
  unfold CodOk cod_X7_doOrders
  refine List.forall_mem_cons.mpr ⟨ok_aload_n F dX7_doOrders_0 rfl (by decide), ?_⟩
  refine List.forall_mem_cons.mpr ⟨ok_iconst F dX7_doOrders_1 (by decide) (by decide), ?_⟩
  refine List.forall_mem_cons.mpr ⟨ok_puti F aW_p7_11_ok (fun _ _ _ h => by cases h; rfl) rfl flX7_261 dX7_doOrders_2 (by decide), ?_⟩
  refine List.forall_mem_cons.mpr ⟨ok_aload_n F dX7_doOrders_5 rfl (by decide), ?_⟩
  refine List.forall_mem_cons.mpr ⟨ok_iconst F dX7_doOrders_6 (by decide) (by decide), ?_⟩
  refine List.forall_mem_cons.mpr ⟨ok_puti F aW_p7_12_ok (fun _ _ _ h => by cases h; rfl) rfl flX7_264 dX7_doOrders_7 (by decide), ?_⟩
  refine List.forall_mem_cons.mpr ⟨ok_aload_n F dX7_doOrders_10 rfl (by decide), ?_⟩
  refine List.forall_mem_cons.mpr ⟨ok_iconst F dX7_doOrders_11 (by decide) (by decide), ?_⟩
  refine List.forall_mem_cons.mpr ⟨ok_puti F aW_p7_7_ok (fun _ _ _ h => by cases h; rfl) rfl flX7_245 dX7_doOrders_12 (by decide), ?_⟩
  refine List.forall_mem_cons.mpr ⟨ok_aload_n F dX7_doOrders_15 rfl (by decide), ?_⟩
  refine List.forall_mem_cons.mpr ⟨ok_getf F flX7_245 dX7_doOrders_16 (by decide), ?_⟩
  refine List.forall_mem_cons.mpr ⟨ok_aload_n F dX7_doOrders_19 rfl (by decide), ?_⟩
  refine List.forall_mem_cons.mpr ⟨ok_getf F flX7_234 dX7_doOrders_20 (by decide), ?_⟩
  refine List.forall_mem_cons.mpr ⟨ok_icmp_ge F dX7_doOrders_23 (by decide) (by decide) (by decide), ?_⟩
  refine List.forall_mem_cons.mpr ⟨ok_aload_n F dX7_doOrders_26 rfl (by decide), ?_⟩
  refine List.forall_mem_cons.mpr ⟨ok_getf F flX7_261 dX7_doOrders_27 (by decide), ?_⟩
  refine List.forall_mem_cons.mpr ⟨ok_if_ne F dX7_doOrders_30 (by decide) (by decide) (by decide), ?_⟩
  refine List.forall_mem_cons.mpr ⟨ok_aload_n F dX7_doOrders_33 rfl (by decide), ?_⟩
  refine List.forall_mem_cons.mpr ⟨ok_aload_n F dX7_doOrders_34 rfl (by decide), ?_⟩
  refine List.forall_mem_cons.mpr ⟨ok_getf F flX7_245 dX7_doOrders_35 (by decide), ?_⟩
  refine List.forall_mem_cons.mpr ⟨ok_puti F aW_p7_10_ok (fun _ _ _ h => by cases h; rfl) rfl flX7_267 dX7_doOrders_38 (by decide), ?_⟩
  refine List.forall_mem_cons.mpr ⟨ok_aload_n F dX7_doOrders_41 rfl (by decide), ?_⟩
  refine List.forall_mem_cons.mpr ⟨ok_aload_n F dX7_doOrders_42 rfl (by decide), ?_⟩
  refine List.forall_mem_cons.mpr ⟨ok_callV F spok_X7_readsOrder (ln_id aW) rcv_aW (by decide +kernel) (by decide) dX7_doOrders_43 (by decide), ?_⟩
  refine List.forall_mem_cons.mpr ⟨ok_if_eq F dX7_doOrders_46 (by decide) (by decide) (by decide), ?_⟩
  refine List.forall_mem_cons.mpr ⟨ok_aload_n F dX7_doOrders_49 rfl (by decide), ?_⟩
  refine List.forall_mem_cons.mpr ⟨ok_callV F spok_X7_reasonOfOrder (ln_id aW) rcv_aW (by decide +kernel) (by decide) dX7_doOrders_50 (by decide), ?_⟩
  refine List.forall_mem_cons.mpr ⟨ok_goto F dX7_doOrders_53 (by decide) (by decide) (by decide), ?_⟩
  refine List.forall_mem_cons.mpr ⟨ok_iconst F dX7_doOrders_56 (by decide) (by decide), ?_⟩
  refine List.forall_mem_cons.mpr ⟨ok_puti F aW_p7_11_ok (fun _ _ _ h => by cases h; rfl) rfl flX7_261 dX7_doOrders_57 (by decide), ?_⟩
  refine List.forall_mem_cons.mpr ⟨ok_aload_n F dX7_doOrders_60 rfl (by decide), ?_⟩
  refine List.forall_mem_cons.mpr ⟨ok_getf F flX7_261 dX7_doOrders_61 (by decide), ?_⟩
  refine List.forall_mem_cons.mpr ⟨ok_if_ne F dX7_doOrders_64 (by decide) (by decide) (by decide), ?_⟩
  refine List.forall_mem_cons.mpr ⟨ok_aload_n F dX7_doOrders_67 rfl (by decide), ?_⟩
  refine List.forall_mem_cons.mpr ⟨ok_callV F spok_X7_does (ln_id aW) rcv_aW (by decide +kernel) (by decide) dX7_doOrders_68 (by decide), ?_⟩
  refine List.forall_mem_cons.mpr ⟨ok_aload_n F dX7_doOrders_71 rfl (by decide), ?_⟩
  refine List.forall_mem_cons.mpr ⟨ok_dup F dX7_doOrders_72 (by decide), ?_⟩
  refine List.forall_mem_cons.mpr ⟨ok_getf F flX7_264 dX7_doOrders_73 (by decide), ?_⟩
  refine List.forall_mem_cons.mpr ⟨ok_iconst F dX7_doOrders_76 (by decide) (by decide), ?_⟩
  refine List.forall_mem_cons.mpr ⟨ok_iadd F dX7_doOrders_77 (by decide), ?_⟩
  refine List.forall_mem_cons.mpr ⟨ok_puti F aW_p7_12_ok (fun _ _ _ h => by cases h; rfl) rfl flX7_264 dX7_doOrders_78 (by decide), ?_⟩
  refine List.forall_mem_cons.mpr ⟨ok_goto F dX7_doOrders_81 (by decide) (by decide) (by decide), ?_⟩
  refine List.forall_mem_cons.mpr ⟨ok_vret F G dX7_doOrders_84 (by decide), ?_⟩
  exact fun _ h => absurd h List.not_mem_nil
set_option maxRecDepth 100000 in
theorem w_X7_doOrders : (∀ (K : Kt QT) (n : Nat) (L : xL) (st : List Value) (S : QT), nx cod_X7_doOrders cut_X7_doOrders K (n + 1) 0 L st S = (O_aload 0 1) (nx cod_X7_doOrders cut_X7_doOrders K n) 0 L st S) ∧
  (∀ (K : Kt QT) (n : Nat) (L : xL) (st : List Value) (S : QT), nx cod_X7_doOrders cut_X7_doOrders K (n + 1) 1 L st S = (O_int 0 1) (nx cod_X7_doOrders cut_X7_doOrders K n) 1 L st S) ∧
  (∀ (K : Kt QT) (n : Nat) (L : xL) (st : List Value) (S : QT), nx cod_X7_doOrders cut_X7_doOrders K (n + 1) 2 L st S = (O_puti aW_p7_11) (nx cod_X7_doOrders cut_X7_doOrders K n) 2 L st S) ∧
  (∀ (K : Kt QT) (n : Nat) (L : xL) (st : List Value) (S : QT), nx cod_X7_doOrders cut_X7_doOrders K (n + 1) 5 L st S = (O_aload 0 1) (nx cod_X7_doOrders cut_X7_doOrders K n) 5 L st S) ∧
  (∀ (K : Kt QT) (n : Nat) (L : xL) (st : List Value) (S : QT), nx cod_X7_doOrders cut_X7_doOrders K (n + 1) 6 L st S = (O_int 0 1) (nx cod_X7_doOrders cut_X7_doOrders K n) 6 L st S) ∧
  (∀ (K : Kt QT) (n : Nat) (L : xL) (st : List Value) (S : QT), nx cod_X7_doOrders cut_X7_doOrders K (n + 1) 7 L st S = (O_puti aW_p7_12) (nx cod_X7_doOrders cut_X7_doOrders K n) 7 L st S) ∧
  (∀ (K : Kt QT) (n : Nat) (L : xL) (st : List Value) (S : QT), nx cod_X7_doOrders cut_X7_doOrders K (n + 1) 10 L st S = (O_aload 0 1) (nx cod_X7_doOrders cut_X7_doOrders K n) 10 L st S) ∧
  (∀ (K : Kt QT) (n : Nat) (L : xL) (st : List Value) (S : QT), nx cod_X7_doOrders cut_X7_doOrders K (n + 1) 11 L st S = (O_int 0 1) (nx cod_X7_doOrders cut_X7_doOrders K n) 11 L st S) ∧
  (∀ (K : Kt QT) (n : Nat) (L : xL) (st : List Value) (S : QT), nx cod_X7_doOrders cut_X7_doOrders K (n + 1) 12 L st S = (O_puti aW_p7_7) (nx cod_X7_doOrders cut_X7_doOrders K n) 12 L st S) ∧
  (∀ (K : Kt QT) (n : Nat) (L : xL) (st : List Value) (S : QT), nx cod_X7_doOrders cut_X7_doOrders K (n + 1) 15 L st S = K 15 L st S) ∧
  (∀ (K : Kt QT) (n : Nat) (L : xL) (st : List Value) (S : QT), nx1 cod_X7_doOrders cut_X7_doOrders K n 15 L st S = (O_aload 0 1) (nx cod_X7_doOrders cut_X7_doOrders K n) 15 L st S) ∧
  (∀ (K : Kt QT) (n : Nat) (L : xL) (st : List Value) (S : QT), nx cod_X7_doOrders cut_X7_doOrders K (n + 1) 16 L st S = (O_getf aW 7 7) (nx cod_X7_doOrders cut_X7_doOrders K n) 16 L st S) ∧
  (∀ (K : Kt QT) (n : Nat) (L : xL) (st : List Value) (S : QT), nx cod_X7_doOrders cut_X7_doOrders K (n + 1) 19 L st S = (O_aload 0 1) (nx cod_X7_doOrders cut_X7_doOrders K n) 19 L st S) ∧
  (∀ (K : Kt QT) (n : Nat) (L : xL) (st : List Value) (S : QT), nx cod_X7_doOrders cut_X7_doOrders K (n + 1) 20 L st S = (O_getf aW 7 6) (nx cod_X7_doOrders cut_X7_doOrders K n) 20 L st S) ∧
  (∀ (K : Kt QT) (n : Nat) (L : xL) (st : List Value) (S : QT), nx cod_X7_doOrders cut_X7_doOrders K (n + 1) 23 L st S = (O_icmp_ge 84) (nx cod_X7_doOrders cut_X7_doOrders K n) 23 L st S) ∧
  (∀ (K : Kt QT) (n : Nat) (L : xL) (st : List Value) (S : QT), nx cod_X7_doOrders cut_X7_doOrders K (n + 1) 26 L st S = (O_aload 0 1) (nx cod_X7_doOrders cut_X7_doOrders K n) 26 L st S) ∧
  (∀ (K : Kt QT) (n : Nat) (L : xL) (st : List Value) (S : QT), nx cod_X7_doOrders cut_X7_doOrders K (n + 1) 27 L st S = (O_getf aW 7 11) (nx cod_X7_doOrders cut_X7_doOrders K n) 27 L st S) ∧
  (∀ (K : Kt QT) (n : Nat) (L : xL) (st : List Value) (S : QT), nx cod_X7_doOrders cut_X7_doOrders K (n + 1) 30 L st S = (O_if_ne 84) (nx cod_X7_doOrders cut_X7_doOrders K n) 30 L st S) ∧
  (∀ (K : Kt QT) (n : Nat) (L : xL) (st : List Value) (S : QT), nx cod_X7_doOrders cut_X7_doOrders K (n + 1) 33 L st S = (O_aload 0 1) (nx cod_X7_doOrders cut_X7_doOrders K n) 33 L st S) ∧
  (∀ (K : Kt QT) (n : Nat) (L : xL) (st : List Value) (S : QT), nx cod_X7_doOrders cut_X7_doOrders K (n + 1) 34 L st S = (O_aload 0 1) (nx cod_X7_doOrders cut_X7_doOrders K n) 34 L st S) ∧
  (∀ (K : Kt QT) (n : Nat) (L : xL) (st : List Value) (S : QT), nx cod_X7_doOrders cut_X7_doOrders K (n + 1) 35 L st S = (O_getf aW 7 7) (nx cod_X7_doOrders cut_X7_doOrders K n) 35 L st S) ∧
  (∀ (K : Kt QT) (n : Nat) (L : xL) (st : List Value) (S : QT), nx cod_X7_doOrders cut_X7_doOrders K (n + 1) 38 L st S = (O_puti aW_p7_10) (nx cod_X7_doOrders cut_X7_doOrders K n) 38 L st S) ∧
  (∀ (K : Kt QT) (n : Nat) (L : xL) (st : List Value) (S : QT), nx cod_X7_doOrders cut_X7_doOrders K (n + 1) 41 L st S = (O_aload 0 1) (nx cod_X7_doOrders cut_X7_doOrders K n) 41 L st S) ∧
  (∀ (K : Kt QT) (n : Nat) (L : xL) (st : List Value) (S : QT), nx cod_X7_doOrders cut_X7_doOrders K (n + 1) 42 L st S = (O_aload 0 1) (nx cod_X7_doOrders cut_X7_doOrders K n) 42 L st S) ∧
  (∀ (K : Kt QT) (n : Nat) (L : xL) (st : List Value) (S : QT), nx cod_X7_doOrders cut_X7_doOrders K (n + 1) 43 L st S = (O_callV 0 0 (fun S => S) (fun _ S' => S') sp_X7_readsOrder) (nx cod_X7_doOrders cut_X7_doOrders K n) 43 L st S) ∧
  (∀ (K : Kt QT) (n : Nat) (L : xL) (st : List Value) (S : QT), nx cod_X7_doOrders cut_X7_doOrders K (n + 1) 46 L st S = (O_if_eq 56) (nx cod_X7_doOrders cut_X7_doOrders K n) 46 L st S) ∧
  (∀ (K : Kt QT) (n : Nat) (L : xL) (st : List Value) (S : QT), nx cod_X7_doOrders cut_X7_doOrders K (n + 1) 49 L st S = (O_aload 0 1) (nx cod_X7_doOrders cut_X7_doOrders K n) 49 L st S) ∧
  (∀ (K : Kt QT) (n : Nat) (L : xL) (st : List Value) (S : QT), nx cod_X7_doOrders cut_X7_doOrders K (n + 1) 50 L st S = (O_callV 0 0 (fun S => S) (fun _ S' => S') sp_X7_reasonOfOrder) (nx cod_X7_doOrders cut_X7_doOrders K n) 50 L st S) ∧
  (∀ (K : Kt QT) (n : Nat) (L : xL) (st : List Value) (S : QT), nx cod_X7_doOrders cut_X7_doOrders K (n + 1) 53 L st S = (O_goto 57) (nx cod_X7_doOrders cut_X7_doOrders K n) 53 L st S) ∧
  (∀ (K : Kt QT) (n : Nat) (L : xL) (st : List Value) (S : QT), nx cod_X7_doOrders cut_X7_doOrders K (n + 1) 56 L st S = (O_int 1 1) (nx cod_X7_doOrders cut_X7_doOrders K n) 56 L st S) ∧
  (∀ (K : Kt QT) (n : Nat) (L : xL) (st : List Value) (S : QT), nx cod_X7_doOrders cut_X7_doOrders K (n + 1) 57 L st S = (O_puti aW_p7_11) (nx cod_X7_doOrders cut_X7_doOrders K n) 57 L st S) ∧
  (∀ (K : Kt QT) (n : Nat) (L : xL) (st : List Value) (S : QT), nx cod_X7_doOrders cut_X7_doOrders K (n + 1) 60 L st S = (O_aload 0 1) (nx cod_X7_doOrders cut_X7_doOrders K n) 60 L st S) ∧
  (∀ (K : Kt QT) (n : Nat) (L : xL) (st : List Value) (S : QT), nx cod_X7_doOrders cut_X7_doOrders K (n + 1) 61 L st S = (O_getf aW 7 11) (nx cod_X7_doOrders cut_X7_doOrders K n) 61 L st S) ∧
  (∀ (K : Kt QT) (n : Nat) (L : xL) (st : List Value) (S : QT), nx cod_X7_doOrders cut_X7_doOrders K (n + 1) 64 L st S = (O_if_ne 15) (nx cod_X7_doOrders cut_X7_doOrders K n) 64 L st S) ∧
  (∀ (K : Kt QT) (n : Nat) (L : xL) (st : List Value) (S : QT), nx cod_X7_doOrders cut_X7_doOrders K (n + 1) 67 L st S = (O_aload 0 1) (nx cod_X7_doOrders cut_X7_doOrders K n) 67 L st S) ∧
  (∀ (K : Kt QT) (n : Nat) (L : xL) (st : List Value) (S : QT), nx cod_X7_doOrders cut_X7_doOrders K (n + 1) 68 L st S = (O_callV 0 0 (fun S => S) (fun _ S' => S') sp_X7_does) (nx cod_X7_doOrders cut_X7_doOrders K n) 68 L st S) ∧
  (∀ (K : Kt QT) (n : Nat) (L : xL) (st : List Value) (S : QT), nx cod_X7_doOrders cut_X7_doOrders K (n + 1) 71 L st S = (O_aload 0 1) (nx cod_X7_doOrders cut_X7_doOrders K n) 71 L st S) ∧
  (∀ (K : Kt QT) (n : Nat) (L : xL) (st : List Value) (S : QT), nx cod_X7_doOrders cut_X7_doOrders K (n + 1) 72 L st S = (O_dup) (nx cod_X7_doOrders cut_X7_doOrders K n) 72 L st S) ∧
  (∀ (K : Kt QT) (n : Nat) (L : xL) (st : List Value) (S : QT), nx cod_X7_doOrders cut_X7_doOrders K (n + 1) 73 L st S = (O_getf aW 7 12) (nx cod_X7_doOrders cut_X7_doOrders K n) 73 L st S) ∧
  (∀ (K : Kt QT) (n : Nat) (L : xL) (st : List Value) (S : QT), nx cod_X7_doOrders cut_X7_doOrders K (n + 1) 76 L st S = (O_int 1 1) (nx cod_X7_doOrders cut_X7_doOrders K n) 76 L st S) ∧
  (∀ (K : Kt QT) (n : Nat) (L : xL) (st : List Value) (S : QT), nx cod_X7_doOrders cut_X7_doOrders K (n + 1) 77 L st S = (O_iadd) (nx cod_X7_doOrders cut_X7_doOrders K n) 77 L st S) ∧
  (∀ (K : Kt QT) (n : Nat) (L : xL) (st : List Value) (S : QT), nx cod_X7_doOrders cut_X7_doOrders K (n + 1) 78 L st S = (O_puti aW_p7_12) (nx cod_X7_doOrders cut_X7_doOrders K n) 78 L st S) ∧
  (∀ (K : Kt QT) (n : Nat) (L : xL) (st : List Value) (S : QT), nx cod_X7_doOrders cut_X7_doOrders K (n + 1) 81 L st S = (O_goto 15) (nx cod_X7_doOrders cut_X7_doOrders K n) 81 L st S) ∧
  (∀ (K : Kt QT) (n : Nat) (L : xL) (st : List Value) (S : QT), nx cod_X7_doOrders cut_X7_doOrders K (n + 1) 84 L st S = (O_vret) (nx cod_X7_doOrders cut_X7_doOrders K n) 84 L st S) ∧
  (∀ (K : Kt QT) (n : Nat) (L : xL) (st : List Value) (S : QT), nx cod_X7_doOrders cut_X7_doOrders K (n + 1) 100000 L st S = K 100000 L st S) := by
  repeat' apply And.intro
  all_goals (intros; rfl)
set_option maxRecDepth 100000 in
theorem mk_X7_doOrders {P P' : QT} {r : Option Value}  (body : ∀ E : En, CodOk E aW cod_X7_doOrders → Gd E aW 100000 [] r.toList P' → Gd E aW 0 [some (.ref 0)] [] P) : Con yX7_doOrders cX7_doOrders 1 none 9 aW [.ref 0] P r P' :=
  Con.of (by decide) ((aW_len P').trans (aW_len P).symm) rfl (Nat.le_of_ble_eq_true rfl) (fun E F G hr => body E (okc_X7_doOrders F G) hr)
set_option maxRecDepth 10000 in
theorem con_X7_doOrders (S : ST) (M : MT) (fl : Bool)  (hp : S.inv 400000 ∧ isN M.textLong M.tn 60 ∧ fl = false) : Con yX7_doOrders cX7_doOrders 1 none 9 aW [.ref 0] (S, M, fl) (none) (((ordR 61 S M.ini).1, (ordR 61 S M.ini).2, false)) := by
  refine mk_X7_doOrders (fun E C hr => ?_)
  obtain ⟨hi, ht, rfl⟩ := hp
  have loop : ∀ (f p : Nat) (T : ST) (U : MT), U.place = nI p → p ≤ 70 → (U.faultReason = 0 → 61 ≤ p + f) → T.inv (5000 * f + 50000) → isN U.textLong U.tn 60 → ordR f T U = ordR 61 S M.ini → Gd E aW 15 [some (.ref 0)] [] (T, U, false) := by
    intro f
    induction f with
    | zero =>
      intro p T U h1 h2 h3 h4 h5 h6
      have h6 : (T, U) = ordR 61 S M.ini := h6
      rw [← h6] at hr
      have hr : Gd E aW 100000 [] [] (T, U, false) := hr
      by_cases c : U.place < U.textLong
      · by_cases d : U.faultReason = 0
        · exfalso
          have := h3 d
          rw [h1, h5.1, nI_ltI (by omega) (by have := h5.2; omega)] at c
          have := h5.2
          omega
        · clear h1 h3 h4 h5 h6 ht hi
          (refine nx1_ok C cut_X7_doOrders 1000 ?_; simp only [w_X7_doOrders, ops_eq, xst_eq, call_eq, oK_eq, Option.toList_some, Option.toList_none, List.cons_append, List.nil_append, List.length_cons, List.length_nil, true_and, and_true, Nat.reduceAdd, aW_F, aW_A, aW_P, aW_w, abs_eq, O_asti_eq, v170, cl_eq, ST_id, MT_gs, ST_gs, PT_gs, ZT_gs, NT_gs, ET_gs, se_X7_readsOrder, se_X7_reasonOfOrder, se_X7_does, c, d])
          ((repeat' (with_reducible first | apply And.intro | intro _)) <;> first | (with_reducible assumption) | (with_reducible exact Nat.zero_le _) | (with_reducible exact absurd trivial ‹¬True›) | (with_reducible exact absurd ‹(1 : Int32) = 0› (by decide)) | (with_reducible exact absurd rfl ‹¬((0 : Int32) = 0)›) | (simp only [Option.toList_none, Option.toList_some] at hr; with_reducible assumption) | (simp_all; done))
      · clear h1 h3 h4 h5 h6 ht hi
        (refine nx1_ok C cut_X7_doOrders 1000 ?_; simp only [w_X7_doOrders, ops_eq, xst_eq, call_eq, oK_eq, Option.toList_some, Option.toList_none, List.cons_append, List.nil_append, List.length_cons, List.length_nil, true_and, and_true, Nat.reduceAdd, aW_F, aW_A, aW_P, aW_w, abs_eq, O_asti_eq, v170, cl_eq, ST_id, MT_gs, ST_gs, PT_gs, ZT_gs, NT_gs, ET_gs, se_X7_readsOrder, se_X7_reasonOfOrder, se_X7_does, c])
        ((repeat' (with_reducible first | apply And.intro | intro _)) <;> first | (with_reducible assumption) | (with_reducible exact Nat.zero_le _) | (with_reducible exact absurd trivial ‹¬True›) | (with_reducible exact absurd ‹(1 : Int32) = 0› (by decide)) | (with_reducible exact absurd rfl ‹¬((0 : Int32) = 0)›) | (simp only [Option.toList_none, Option.toList_some] at hr; with_reducible assumption) | (simp_all; done))
    | succ f ih =>
      intro p T U h1 h2 h3 h4 h5 h6
      by_cases c : U.place < U.textLong
      · by_cases d : U.faultReason = 0
        · have e : ordR (f + 1) T U = ordR f (ordS T U).1 (ordS T U).2 := if_pos ⟨c, d⟩
          have hp60 : p < 60 := by
            rw [h1, h5.1, nI_ltI (by omega) (by have := h5.2; omega)] at c
            have := h5.2
            omega
          obtain ⟨k, k1, k2, k3⟩ := ordS_place (T := T) h1
          have hq := (ordS_kq T U).2.1
          have hn := ih (p + k) (ordS T U).1 (ordS T U).2 k3 (by omega) (fun _ => by have := h3 d; omega) (ordS_inv (n := 5000 * f + 50000) (by rw [show 5000 * f + 50000 + 5000 = 5000 * (f + 1) + 50000 by omega]; exact h4)) (by unfold MT.tn; rw [hq]; exact h5) (e.symm.trans h6)
          have t1 : isN U.place (U.sFaultAt U.place).pl 100 := by
            have : U.pl = p := by unfold MT.pl; rw [h1]; exact nI_clamp (by omega)
            show isN U.place U.pl 100
            rw [this]
            exact ⟨h1, by omega, by omega⟩
          have t2 : isN U.textLong (U.sFaultAt U.place).tn 60 := h5
          have i1 := ST.inv_le h4 (m := 1) (by omega)
          have i4 := ST.inv_le h4 (m := 40000) (by omega)
          have hrr : (U.sFaultAt U.place).rdo.2 = U.rr := rfl
          have hle := rdo_let (M := U.sFaultAt U.place)
          rw [hrr] at hle
          unfold ordS at hn
          clear ih k3 hq e h6 h1 h3 h4 h5 ht hi hr
          by_cases g : (U.sFaultAt U.place).rdo.1 = false
          · rw [if_pos g] at hn
            have hn : Gd E aW 15 [some (.ref 0)] [] (T, U.rr.sFaultReason 1, false) := hn
            (refine nx1_ok C cut_X7_doOrders 1000 ?_; simp only [w_X7_doOrders, ops_eq, xst_eq, call_eq, oK_eq, Option.toList_some, Option.toList_none, List.cons_append, List.nil_append, List.length_cons, List.length_nil, true_and, and_true, Nat.reduceAdd, aW_F, aW_A, aW_P, aW_w, abs_eq, O_asti_eq, v170, cl_eq, ST_id, MT_gs, ST_gs, PT_gs, ZT_gs, NT_gs, ET_gs, se_X7_readsOrder, se_X7_reasonOfOrder, se_X7_does, bI_eq, c, d, t1, t2, g, hrr])
            ((repeat' (with_reducible first | apply And.intro | intro _)) <;> first | (with_reducible assumption) | (with_reducible exact Nat.zero_le _) | (with_reducible exact absurd trivial ‹¬True›) | (with_reducible exact absurd ‹(1 : Int32) = 0› (by decide)) | (with_reducible exact absurd rfl ‹¬((0 : Int32) = 0)›) | (simp only [Option.toList_none, Option.toList_some] at hr; with_reducible assumption) | (simp_all; done))
          · have g2 : (U.sFaultAt U.place).rdo.1 = true := by cases z : (U.sFaultAt U.place).rdo.1 <;> simp_all
            have hle := hle g2
            rw [if_neg g] at hn
            by_cases q : (T.order U.rr.order U.rr.number).1 = 0
            · rw [if_neg (fun z => z q)] at hn
              have hn : Gd E aW 15 [some (.ref 0)] [] ((T.order U.rr.order U.rr.number).2, U.rr.dn T, false) := hn
              unfold MT.dn at hn
              (refine nx1_ok C cut_X7_doOrders 1000 ?_; simp only [w_X7_doOrders, ops_eq, xst_eq, call_eq, oK_eq, Option.toList_some, Option.toList_none, List.cons_append, List.nil_append, List.length_cons, List.length_nil, true_and, and_true, Nat.reduceAdd, aW_F, aW_A, aW_P, aW_w, abs_eq, O_asti_eq, v170, cl_eq, ST_id, MT_gs, ST_gs, PT_gs, ZT_gs, NT_gs, ET_gs, se_X7_readsOrder, se_X7_reasonOfOrder, se_X7_does, bI_eq, c, d, t1, t2, g2, hrr, hle, i1, i4, q])
              ((repeat' (with_reducible first | apply And.intro | intro _)) <;> first | (with_reducible assumption) | (with_reducible exact Nat.zero_le _) | (with_reducible exact absurd trivial ‹¬True›) | (with_reducible exact absurd ‹(1 : Int32) = 0› (by decide)) | (with_reducible exact absurd rfl ‹¬((0 : Int32) = 0)›) | (simp only [Option.toList_none, Option.toList_some] at hr; with_reducible assumption) | (simp_all; done))
            · rw [if_pos q] at hn
              have hn : Gd E aW 15 [some (.ref 0)] [] (T, U.rr.sFaultReason (T.order U.rr.order U.rr.number).1, false) := hn
              (refine nx1_ok C cut_X7_doOrders 1000 ?_; simp only [w_X7_doOrders, ops_eq, xst_eq, call_eq, oK_eq, Option.toList_some, Option.toList_none, List.cons_append, List.nil_append, List.length_cons, List.length_nil, true_and, and_true, Nat.reduceAdd, aW_F, aW_A, aW_P, aW_w, abs_eq, O_asti_eq, v170, cl_eq, ST_id, MT_gs, ST_gs, PT_gs, ZT_gs, NT_gs, ET_gs, se_X7_readsOrder, se_X7_reasonOfOrder, se_X7_does, bI_eq, c, d, t1, t2, g2, hrr, hle, i1, q])
              ((repeat' (with_reducible first | apply And.intro | intro _)) <;> first | (with_reducible assumption) | (with_reducible exact Nat.zero_le _) | (with_reducible exact absurd trivial ‹¬True›) | (with_reducible exact absurd ‹(1 : Int32) = 0› (by decide)) | (with_reducible exact absurd rfl ‹¬((0 : Int32) = 0)›) | (simp only [Option.toList_none, Option.toList_some] at hr; with_reducible assumption) | (simp_all; done))
        · have e : ordR (f + 1) T U = (T, U) := if_neg (fun z => d z.2)
          rw [e] at h6
          rw [← h6] at hr
          have hr : Gd E aW 100000 [] [] (T, U, false) := hr
          clear ih h1 h3 h4 h5 h6 ht hi e
          (refine nx1_ok C cut_X7_doOrders 1000 ?_; simp only [w_X7_doOrders, ops_eq, xst_eq, call_eq, oK_eq, Option.toList_some, Option.toList_none, List.cons_append, List.nil_append, List.length_cons, List.length_nil, true_and, and_true, Nat.reduceAdd, aW_F, aW_A, aW_P, aW_w, abs_eq, O_asti_eq, v170, cl_eq, ST_id, MT_gs, ST_gs, PT_gs, ZT_gs, NT_gs, ET_gs, se_X7_readsOrder, se_X7_reasonOfOrder, se_X7_does, c, d])
          ((repeat' (with_reducible first | apply And.intro | intro _)) <;> first | (with_reducible assumption) | (with_reducible exact Nat.zero_le _) | (with_reducible exact absurd trivial ‹¬True›) | (with_reducible exact absurd ‹(1 : Int32) = 0› (by decide)) | (with_reducible exact absurd rfl ‹¬((0 : Int32) = 0)›) | (simp only [Option.toList_none, Option.toList_some] at hr; with_reducible assumption) | (simp_all; done))
      · have e : ordR (f + 1) T U = (T, U) := if_neg (fun z => c z.1)
        rw [e] at h6
        rw [← h6] at hr
        have hr : Gd E aW 100000 [] [] (T, U, false) := hr
        clear ih h1 h3 h4 h5 h6 ht hi e
        (refine nx1_ok C cut_X7_doOrders 1000 ?_; simp only [w_X7_doOrders, ops_eq, xst_eq, call_eq, oK_eq, Option.toList_some, Option.toList_none, List.cons_append, List.nil_append, List.length_cons, List.length_nil, true_and, and_true, Nat.reduceAdd, aW_F, aW_A, aW_P, aW_w, abs_eq, O_asti_eq, v170, cl_eq, ST_id, MT_gs, ST_gs, PT_gs, ZT_gs, NT_gs, ET_gs, se_X7_readsOrder, se_X7_reasonOfOrder, se_X7_does, c])
        ((repeat' (with_reducible first | apply And.intro | intro _)) <;> first | (with_reducible assumption) | (with_reducible exact Nat.zero_le _) | (with_reducible exact absurd trivial ‹¬True›) | (with_reducible exact absurd ‹(1 : Int32) = 0› (by decide)) | (with_reducible exact absurd rfl ‹¬((0 : Int32) = 0)›) | (simp only [Option.toList_none, Option.toList_some] at hr; with_reducible assumption) | (simp_all; done))
  have h15 := loop 61 0 S M.ini rfl (by omega) (fun _ => by omega) (ST.inv_le hi (by omega)) ht rfl
  clear loop hr hi ht
  (refine nx_ok C (cuts := cut_X7_doOrders) 1000 _ _ _ _ ?_; simp only [w_X7_doOrders, ops_eq, xst_eq, call_eq, oK_eq, Option.toList_some, Option.toList_none, List.cons_append, List.nil_append, List.length_cons, List.length_nil, true_and, and_true, Nat.reduceAdd, aW_F, aW_A, aW_P, aW_w, abs_eq, O_asti_eq, v170, cl_eq, ST_id, MT_gs, ST_gs, PT_gs, ZT_gs, NT_gs, ET_gs, se_X7_readsOrder, se_X7_reasonOfOrder, se_X7_does])
  unfold MT.ini at h15
  ((repeat' (with_reducible first | apply And.intro | intro _)) <;> first | (with_reducible assumption) | (with_reducible exact Nat.zero_le _) | (with_reducible exact absurd trivial ‹¬True›) | (with_reducible exact absurd ‹(1 : Int32) = 0› (by decide)) | (with_reducible exact absurd rfl ‹¬((0 : Int32) = 0)›) | (simp only [Option.toList_none, Option.toList_some] at hr; with_reducible assumption) | (simp_all; done))
def spc_X7_doOrders (S : ST) (M : MT) (fl : Bool)  (K : Option Value → QT → Prop) : Prop := (S.inv 400000 ∧ isN M.textLong M.tn 60 ∧ fl = false) ∧ K (none) (((ordR 61 S M.ini).1, (ordR 61 S M.ini).2, false))
def sp_X7_doOrders : Sp QT := fun av q K => match av with
  | [.ref 0] => spc_X7_doOrders q.1 q.2.1 q.2.2  K
  | _ => False
theorem se_X7_doOrders (S : ST) (M : MT) (fl : Bool)  (K : Option Value → QT → Prop) : sp_X7_doOrders [.ref 0] (S, M, fl) K = ((S.inv 400000 ∧ isN M.textLong M.tn 60 ∧ fl = false) ∧ K (none) (((ordR 61 S M.ini).1, (ordR 61 S M.ini).2, false))) := rfl
theorem spok_X7_doOrders : SpOk yX7_doOrders cX7_doOrders 1 none 9 aW sp_X7_doOrders := by
  intro av q K h
  unfold sp_X7_doOrders at h
  split at h
  · refine ⟨_, _, ?_, con_X7_doOrders q.1 q.2.1 q.2.2  h.1, h.2⟩; trivial
  · exact h.elim
theorem ini_kq (M : MT) : M.kq M.ini := ⟨rfl, rfl, rfl, rfl, rfl⟩
def tryM (S : ST) (M : MT) : MT := (ordR 61 S (M.lay S).ini).2
theorem tryM_kq (S : ST) (M : MT) : (M.lay S).kq (tryM S M) := kq_tr (ini_kq (M.lay S)) (ordR_kq 61 S _)
theorem tryM_aside (S : ST) (M : MT) : ∀ i, i < 170 → (ordR 61 S (M.lay S).ini).2.aside i = abs S i := fun i hi => by
  have h := (tryM_kq S M).2.2.2.2
  unfold tryM at h
  rw [h]
  exact lay_at M S i hi
def cod_X7_tryOrders : List (Nat × Op QT) := [(0, O_aload 0 1), (1, O_callV 0 0 (fun S => S) (fun _ S' => S') spa_X7_layAside), (4, O_aload 0 1), (5, O_callV 0 0 (fun S => S) (fun _ S' => S') sp_X7_doOrders), (8, O_aload 0 1), (9, O_callV 0 0 (fun S => S) (fun _ S' => S') spa_X7_takeBack), (12, O_vret)]
abbrev cut_X7_tryOrders : List Nat := []
set_option maxRecDepth 100000 in
theorem okc_X7_tryOrders {E : En} (F : Fx E RX7 cX7_tryOrders 1 10) (G : Fr E none) : CodOk E aW cod_X7_tryOrders := by
  unfold CodOk cod_X7_tryOrders
  refine List.forall_mem_cons.mpr ⟨ok_aload_n F dX7_tryOrders_0 rfl (by decide), ?_⟩
  refine List.forall_mem_cons.mpr ⟨ok_callV F spoka_X7_layAside (ln_id aW) rcv_aW (by decide +kernel) (by decide) dX7_tryOrders_1 (by decide), ?_⟩
  refine List.forall_mem_cons.mpr ⟨ok_aload_n F dX7_tryOrders_4 rfl (by decide), ?_⟩
  refine List.forall_mem_cons.mpr ⟨ok_callV F spok_X7_doOrders (ln_id aW) rcv_aW (by decide +kernel) (by decide) dX7_tryOrders_5 (by decide), ?_⟩
  refine List.forall_mem_cons.mpr ⟨ok_aload_n F dX7_tryOrders_8 rfl (by decide), ?_⟩
  refine List.forall_mem_cons.mpr ⟨ok_callV F spoka_X7_takeBack (ln_id aW) rcv_aW (by decide +kernel) (by decide) dX7_tryOrders_9 (by decide), ?_⟩
  refine List.forall_mem_cons.mpr ⟨ok_vret F G dX7_tryOrders_12 (by decide), ?_⟩
  exact fun _ h => absurd h List.not_mem_nil
set_option maxRecDepth 100000 in
theorem w_X7_tryOrders : (∀ (K : Kt QT) (n : Nat) (L : xL) (st : List Value) (S : QT), nx cod_X7_tryOrders cut_X7_tryOrders K (n + 1) 0 L st S = (O_aload 0 1) (nx cod_X7_tryOrders cut_X7_tryOrders K n) 0 L st S) ∧
  (∀ (K : Kt QT) (n : Nat) (L : xL) (st : List Value) (S : QT), nx cod_X7_tryOrders cut_X7_tryOrders K (n + 1) 1 L st S = (O_callV 0 0 (fun S => S) (fun _ S' => S') spa_X7_layAside) (nx cod_X7_tryOrders cut_X7_tryOrders K n) 1 L st S) ∧
  (∀ (K : Kt QT) (n : Nat) (L : xL) (st : List Value) (S : QT), nx cod_X7_tryOrders cut_X7_tryOrders K (n + 1) 4 L st S = (O_aload 0 1) (nx cod_X7_tryOrders cut_X7_tryOrders K n) 4 L st S) ∧
  (∀ (K : Kt QT) (n : Nat) (L : xL) (st : List Value) (S : QT), nx cod_X7_tryOrders cut_X7_tryOrders K (n + 1) 5 L st S = (O_callV 0 0 (fun S => S) (fun _ S' => S') sp_X7_doOrders) (nx cod_X7_tryOrders cut_X7_tryOrders K n) 5 L st S) ∧
  (∀ (K : Kt QT) (n : Nat) (L : xL) (st : List Value) (S : QT), nx cod_X7_tryOrders cut_X7_tryOrders K (n + 1) 8 L st S = (O_aload 0 1) (nx cod_X7_tryOrders cut_X7_tryOrders K n) 8 L st S) ∧
  (∀ (K : Kt QT) (n : Nat) (L : xL) (st : List Value) (S : QT), nx cod_X7_tryOrders cut_X7_tryOrders K (n + 1) 9 L st S = (O_callV 0 0 (fun S => S) (fun _ S' => S') spa_X7_takeBack) (nx cod_X7_tryOrders cut_X7_tryOrders K n) 9 L st S) ∧
  (∀ (K : Kt QT) (n : Nat) (L : xL) (st : List Value) (S : QT), nx cod_X7_tryOrders cut_X7_tryOrders K (n + 1) 12 L st S = (O_vret) (nx cod_X7_tryOrders cut_X7_tryOrders K n) 12 L st S) ∧
  (∀ (K : Kt QT) (n : Nat) (L : xL) (st : List Value) (S : QT), nx cod_X7_tryOrders cut_X7_tryOrders K (n + 1) 100000 L st S = K 100000 L st S) := by
  repeat' apply And.intro
  all_goals (intros; rfl)
set_option maxRecDepth 100000 in
theorem mk_X7_tryOrders {P P' : QT} {r : Option Value}  (body : ∀ E : En, CodOk E aW cod_X7_tryOrders → Gd E aW 100000 [] r.toList P' → Gd E aW 0 [some (.ref 0)] [] P) : Con yX7_tryOrders cX7_tryOrders 1 none 10 aW [.ref 0] P r P' :=
  Con.of (by decide) ((aW_len P').trans (aW_len P).symm) rfl (Nat.le_of_ble_eq_true rfl) (fun E F G hr => body E (okc_X7_tryOrders F G) hr)
set_option maxRecDepth 10000 in
theorem con_X7_tryOrders (S : ST) (M : MT) (fl : Bool)  (hp : S.inv 400000 ∧ isN M.textLong M.tn 60 ∧ fl = false) : Con yX7_tryOrders cX7_tryOrders 1 none 10 aW [.ref 0] (S, M, fl) (none) ((S, tryM S M, false)) := by
  refine mk_X7_tryOrders (fun E C hr => ?_)
  obtain ⟨hi, ht, rfl⟩ := hp
  have ht2 : isN (M.lay S).textLong (M.lay S).tn 60 := ht
  have ha := tryM_aside S M
  unfold tryM at hr
  clear ht
  (refine nx_ok C (cuts := cut_X7_tryOrders) 1000 _ _ _ _ ?_; simp only [w_X7_tryOrders, ops_eq, xst_eq, call_eq, oK_eq, Option.toList_some, Option.toList_none, List.cons_append, List.nil_append, List.length_cons, List.length_nil, true_and, and_true, Nat.reduceAdd, aW_F, aW_A, aW_P, aW_w, abs_eq, O_asti_eq, v170, cl_eq, ST_id, MT_gs, ST_gs, PT_gs, ZT_gs, NT_gs, ET_gs, sea_X7_layAside, se_X7_doOrders, sea_X7_takeBack, hi, ht2])
  (repeat' (with_reducible first | apply And.intro | intro _)) <;> first | (with_reducible exact Nat.zero_le _) | contradiction | (refine ⟨S, ha, ?_⟩; ((repeat' (with_reducible first | apply And.intro | intro _)) <;> first | (with_reducible assumption) | (with_reducible exact Nat.zero_le _) | contradiction | (simp only [Option.toList_none, Option.toList_some] at hr; with_reducible assumption) | (simp_all; done) | assumption))
def spc_X7_tryOrders (S : ST) (M : MT) (fl : Bool)  (K : Option Value → QT → Prop) : Prop := (S.inv 400000 ∧ isN M.textLong M.tn 60 ∧ fl = false) ∧ K (none) ((S, tryM S M, false))
def sp_X7_tryOrders : Sp QT := fun av q K => match av with
  | [.ref 0] => spc_X7_tryOrders q.1 q.2.1 q.2.2  K
  | _ => False
theorem se_X7_tryOrders (S : ST) (M : MT) (fl : Bool)  (K : Option Value → QT → Prop) : sp_X7_tryOrders [.ref 0] (S, M, fl) K = ((S.inv 400000 ∧ isN M.textLong M.tn 60 ∧ fl = false) ∧ K (none) ((S, tryM S M, false))) := rfl
theorem spok_X7_tryOrders : SpOk yX7_tryOrders cX7_tryOrders 1 none 10 aW sp_X7_tryOrders := by
  intro av q K h
  unfold sp_X7_tryOrders at h
  split at h
  · refine ⟨_, _, ?_, con_X7_tryOrders q.1 q.2.1 q.2.2  h.1, h.2⟩; trivial
  · exact h.elim
def cod_X7_fault : List (Nat × Op QT) := [(0, O_iload 1 1), (1, O_i2l), (2, O_long 0 1), (3, O_long 1 1), (4, O_callS 3 sp_X7_in), (7, O_if_ne 13), (10, O_int (-1000001) 2), (12, O_iret), (13, O_aload 0 1), (14, O_callV 0 0 (fun S => S) (fun _ S' => S') sp_X7_tryOrders), (17, O_aload 0 1), (18, O_getf aW 7 11), (21, O_if_ne 29), (24, O_int (-1000004) 2), (26, O_goto 44), (29, O_iload 1 1), (30, O_if_ne 40), (33, O_aload 0 1), (34, O_getf aW 7 10), (37, O_goto 44), (40, O_aload 0 1), (41, O_getf aW 7 11), (44, O_iret)]
abbrev cut_X7_fault : List Nat := []
set_option maxRecDepth 100000 in
theorem okc_X7_fault {E : En} (F : Fx E RX7 cX7_fault 2 11) (G : Fr E (some .int)) : CodOk E aW cod_X7_fault := by
  unfold CodOk cod_X7_fault
  refine List.forall_mem_cons.mpr ⟨ok_iload_n F dX7_fault_0 rfl (by decide), ?_⟩
  refine List.forall_mem_cons.mpr ⟨ok_i2l F dX7_fault_1 (by decide), ?_⟩
  refine List.forall_mem_cons.mpr ⟨ok_lconst F dX7_fault_2 (by decide) (by decide), ?_⟩
  refine List.forall_mem_cons.mpr ⟨ok_lconst F dX7_fault_3 (by decide) (by decide), ?_⟩
  refine List.forall_mem_cons.mpr ⟨ok_callS F spok_X7_in (by decide +kernel) rfl (by decide) dX7_fault_4 (by decide), ?_⟩
  refine List.forall_mem_cons.mpr ⟨ok_if_ne F dX7_fault_7 (by decide) (by decide) (by decide), ?_⟩
  refine List.forall_mem_cons.mpr ⟨ok_ldc F (ix := 62) (wsHas_mem (l := [Jvm.Cond.constant RX7 62 (-1000001)]) (by decide +kernel) (by simp)) dX7_fault_10 (by decide), ?_⟩
  refine List.forall_mem_cons.mpr ⟨ok_iret F G dX7_fault_12 (by decide), ?_⟩
  refine List.forall_mem_cons.mpr ⟨ok_aload_n F dX7_fault_13 rfl (by decide), ?_⟩
  refine List.forall_mem_cons.mpr ⟨ok_callV F spok_X7_tryOrders (ln_id aW) rcv_aW (by decide +kernel) (by decide) dX7_fault_14 (by decide), ?_⟩
  refine List.forall_mem_cons.mpr ⟨ok_aload_n F dX7_fault_17 rfl (by decide), ?_⟩
  refine List.forall_mem_cons.mpr ⟨ok_getf F flX7_261 dX7_fault_18 (by decide), ?_⟩
  refine List.forall_mem_cons.mpr ⟨ok_if_ne F dX7_fault_21 (by decide) (by decide) (by decide), ?_⟩
  refine List.forall_mem_cons.mpr ⟨ok_ldc F (ix := 136) (wsHas_mem (l := [Jvm.Cond.constant RX7 136 (-1000004)]) (by decide +kernel) (by simp)) dX7_fault_24 (by decide), ?_⟩
  refine List.forall_mem_cons.mpr ⟨ok_goto F dX7_fault_26 (by decide) (by decide) (by decide), ?_⟩
  refine List.forall_mem_cons.mpr ⟨ok_iload_n F dX7_fault_29 rfl (by decide), ?_⟩
  refine List.forall_mem_cons.mpr ⟨ok_if_ne F dX7_fault_30 (by decide) (by decide) (by decide), ?_⟩
  refine List.forall_mem_cons.mpr ⟨ok_aload_n F dX7_fault_33 rfl (by decide), ?_⟩
  refine List.forall_mem_cons.mpr ⟨ok_getf F flX7_267 dX7_fault_34 (by decide), ?_⟩
  refine List.forall_mem_cons.mpr ⟨ok_goto F dX7_fault_37 (by decide) (by decide) (by decide), ?_⟩
  refine List.forall_mem_cons.mpr ⟨ok_aload_n F dX7_fault_40 rfl (by decide), ?_⟩
  refine List.forall_mem_cons.mpr ⟨ok_getf F flX7_261 dX7_fault_41 (by decide), ?_⟩
  refine List.forall_mem_cons.mpr ⟨ok_iret F G dX7_fault_44 (by decide), ?_⟩
  exact fun _ h => absurd h List.not_mem_nil
set_option maxRecDepth 100000 in
theorem w_X7_fault : (∀ (K : Kt QT) (n : Nat) (L : xL) (st : List Value) (S : QT), nx cod_X7_fault cut_X7_fault K (n + 1) 0 L st S = (O_iload 1 1) (nx cod_X7_fault cut_X7_fault K n) 0 L st S) ∧
  (∀ (K : Kt QT) (n : Nat) (L : xL) (st : List Value) (S : QT), nx cod_X7_fault cut_X7_fault K (n + 1) 1 L st S = (O_i2l) (nx cod_X7_fault cut_X7_fault K n) 1 L st S) ∧
  (∀ (K : Kt QT) (n : Nat) (L : xL) (st : List Value) (S : QT), nx cod_X7_fault cut_X7_fault K (n + 1) 2 L st S = (O_long 0 1) (nx cod_X7_fault cut_X7_fault K n) 2 L st S) ∧
  (∀ (K : Kt QT) (n : Nat) (L : xL) (st : List Value) (S : QT), nx cod_X7_fault cut_X7_fault K (n + 1) 3 L st S = (O_long 1 1) (nx cod_X7_fault cut_X7_fault K n) 3 L st S) ∧
  (∀ (K : Kt QT) (n : Nat) (L : xL) (st : List Value) (S : QT), nx cod_X7_fault cut_X7_fault K (n + 1) 4 L st S = (O_callS 3 sp_X7_in) (nx cod_X7_fault cut_X7_fault K n) 4 L st S) ∧
  (∀ (K : Kt QT) (n : Nat) (L : xL) (st : List Value) (S : QT), nx cod_X7_fault cut_X7_fault K (n + 1) 7 L st S = (O_if_ne 13) (nx cod_X7_fault cut_X7_fault K n) 7 L st S) ∧
  (∀ (K : Kt QT) (n : Nat) (L : xL) (st : List Value) (S : QT), nx cod_X7_fault cut_X7_fault K (n + 1) 10 L st S = (O_int (-1000001) 2) (nx cod_X7_fault cut_X7_fault K n) 10 L st S) ∧
  (∀ (K : Kt QT) (n : Nat) (L : xL) (st : List Value) (S : QT), nx cod_X7_fault cut_X7_fault K (n + 1) 12 L st S = (O_iret) (nx cod_X7_fault cut_X7_fault K n) 12 L st S) ∧
  (∀ (K : Kt QT) (n : Nat) (L : xL) (st : List Value) (S : QT), nx cod_X7_fault cut_X7_fault K (n + 1) 13 L st S = (O_aload 0 1) (nx cod_X7_fault cut_X7_fault K n) 13 L st S) ∧
  (∀ (K : Kt QT) (n : Nat) (L : xL) (st : List Value) (S : QT), nx cod_X7_fault cut_X7_fault K (n + 1) 14 L st S = (O_callV 0 0 (fun S => S) (fun _ S' => S') sp_X7_tryOrders) (nx cod_X7_fault cut_X7_fault K n) 14 L st S) ∧
  (∀ (K : Kt QT) (n : Nat) (L : xL) (st : List Value) (S : QT), nx cod_X7_fault cut_X7_fault K (n + 1) 17 L st S = (O_aload 0 1) (nx cod_X7_fault cut_X7_fault K n) 17 L st S) ∧
  (∀ (K : Kt QT) (n : Nat) (L : xL) (st : List Value) (S : QT), nx cod_X7_fault cut_X7_fault K (n + 1) 18 L st S = (O_getf aW 7 11) (nx cod_X7_fault cut_X7_fault K n) 18 L st S) ∧
  (∀ (K : Kt QT) (n : Nat) (L : xL) (st : List Value) (S : QT), nx cod_X7_fault cut_X7_fault K (n + 1) 21 L st S = (O_if_ne 29) (nx cod_X7_fault cut_X7_fault K n) 21 L st S) ∧
  (∀ (K : Kt QT) (n : Nat) (L : xL) (st : List Value) (S : QT), nx cod_X7_fault cut_X7_fault K (n + 1) 24 L st S = (O_int (-1000004) 2) (nx cod_X7_fault cut_X7_fault K n) 24 L st S) ∧
  (∀ (K : Kt QT) (n : Nat) (L : xL) (st : List Value) (S : QT), nx cod_X7_fault cut_X7_fault K (n + 1) 26 L st S = (O_goto 44) (nx cod_X7_fault cut_X7_fault K n) 26 L st S) ∧
  (∀ (K : Kt QT) (n : Nat) (L : xL) (st : List Value) (S : QT), nx cod_X7_fault cut_X7_fault K (n + 1) 29 L st S = (O_iload 1 1) (nx cod_X7_fault cut_X7_fault K n) 29 L st S) ∧
  (∀ (K : Kt QT) (n : Nat) (L : xL) (st : List Value) (S : QT), nx cod_X7_fault cut_X7_fault K (n + 1) 30 L st S = (O_if_ne 40) (nx cod_X7_fault cut_X7_fault K n) 30 L st S) ∧
  (∀ (K : Kt QT) (n : Nat) (L : xL) (st : List Value) (S : QT), nx cod_X7_fault cut_X7_fault K (n + 1) 33 L st S = (O_aload 0 1) (nx cod_X7_fault cut_X7_fault K n) 33 L st S) ∧
  (∀ (K : Kt QT) (n : Nat) (L : xL) (st : List Value) (S : QT), nx cod_X7_fault cut_X7_fault K (n + 1) 34 L st S = (O_getf aW 7 10) (nx cod_X7_fault cut_X7_fault K n) 34 L st S) ∧
  (∀ (K : Kt QT) (n : Nat) (L : xL) (st : List Value) (S : QT), nx cod_X7_fault cut_X7_fault K (n + 1) 37 L st S = (O_goto 44) (nx cod_X7_fault cut_X7_fault K n) 37 L st S) ∧
  (∀ (K : Kt QT) (n : Nat) (L : xL) (st : List Value) (S : QT), nx cod_X7_fault cut_X7_fault K (n + 1) 40 L st S = (O_aload 0 1) (nx cod_X7_fault cut_X7_fault K n) 40 L st S) ∧
  (∀ (K : Kt QT) (n : Nat) (L : xL) (st : List Value) (S : QT), nx cod_X7_fault cut_X7_fault K (n + 1) 41 L st S = (O_getf aW 7 11) (nx cod_X7_fault cut_X7_fault K n) 41 L st S) ∧
  (∀ (K : Kt QT) (n : Nat) (L : xL) (st : List Value) (S : QT), nx cod_X7_fault cut_X7_fault K (n + 1) 44 L st S = (O_iret) (nx cod_X7_fault cut_X7_fault K n) 44 L st S) ∧
  (∀ (K : Kt QT) (n : Nat) (L : xL) (st : List Value) (S : QT), nx cod_X7_fault cut_X7_fault K (n + 1) 100000 L st S = K 100000 L st S) := by
  repeat' apply And.intro
  all_goals (intros; rfl)
set_option maxRecDepth 100000 in
theorem mk_X7_fault {P P' : QT} {r : Option Value} {p0 : Int32} (body : ∀ E : En, CodOk E aW cod_X7_fault → Gd E aW 100000 [] r.toList P' → Gd E aW 0 [some (.ref 0), some (.int p0)] [] P) : Con yX7_fault cX7_fault 2 (some .int) 11 aW [.ref 0, .int p0] P r P' :=
  Con.of (by decide) ((aW_len P').trans (aW_len P).symm) rfl (Nat.le_of_ble_eq_true rfl) (fun E F G hr => body E (okc_X7_fault F G) hr)
set_option maxRecDepth 10000 in
theorem con_X7_fault (S : ST) (M : MT) (fl : Bool) (w : Int32) (hp : S.inv 400000 ∧ isN M.textLong M.tn 60 ∧ fl = false) : Con yX7_fault cX7_fault 2 (some .int) 11 aW [.ref 0, .int w] (S, M, fl) (some (.int (if inR w 0 1 = false then -1000001 else if (tryM S M).faultReason = 0 then -1000004 else if w = 0 then (tryM S M).faultAt else (tryM S M).faultReason))) ((if inR w 0 1 = true then (S, tryM S M, false) else (S, M, fl))) := by
  refine mk_X7_fault (fun E C hr => ?_)
  obtain ⟨hi, ht, rfl⟩ := hp
  by_cases c : inR w 0 1 = true
  · rw [if_neg (by rw [c]; decide), if_pos c] at hr
    by_cases d : (tryM S M).faultReason = 0
    · rw [if_pos d] at hr
      (refine nx_ok C (cuts := cut_X7_fault) 1000 _ _ _ _ ?_; simp only [w_X7_fault, ops_eq, xst_eq, call_eq, oK_eq, Option.toList_some, Option.toList_none, List.cons_append, List.nil_append, List.length_cons, List.length_nil, true_and, and_true, Nat.reduceAdd, aW_F, aW_A, aW_P, aW_w, abs_eq, O_asti_eq, v170, cl_eq, ST_id, MT_gs, ST_gs, PT_gs, ZT_gs, NT_gs, ET_gs, se_X7_in, se_X7_tryOrders, bI_eq, inL_lit, c, d, hi, ht])
      ((repeat' (with_reducible first | apply And.intro | intro _)) <;> first | (with_reducible assumption) | (with_reducible exact Nat.zero_le _) | contradiction | (simp only [Option.toList_none, Option.toList_some] at hr; with_reducible assumption) | (simp_all; done) | assumption)
    · rw [if_neg d] at hr
      by_cases e : w = 0
      · rw [if_pos e] at hr
        (refine nx_ok C (cuts := cut_X7_fault) 1000 _ _ _ _ ?_; simp only [w_X7_fault, ops_eq, xst_eq, call_eq, oK_eq, Option.toList_some, Option.toList_none, List.cons_append, List.nil_append, List.length_cons, List.length_nil, true_and, and_true, Nat.reduceAdd, aW_F, aW_A, aW_P, aW_w, abs_eq, O_asti_eq, v170, cl_eq, ST_id, MT_gs, ST_gs, PT_gs, ZT_gs, NT_gs, ET_gs, se_X7_in, se_X7_tryOrders, bI_eq, inL_lit, c, d, hi, ht, e])
        ((repeat' (with_reducible first | apply And.intro | intro _)) <;> first | (with_reducible assumption) | (with_reducible exact Nat.zero_le _) | contradiction | (simp only [Option.toList_none, Option.toList_some] at hr; with_reducible assumption) | (simp_all; done) | assumption)
      · rw [if_neg e] at hr
        (refine nx_ok C (cuts := cut_X7_fault) 1000 _ _ _ _ ?_; simp only [w_X7_fault, ops_eq, xst_eq, call_eq, oK_eq, Option.toList_some, Option.toList_none, List.cons_append, List.nil_append, List.length_cons, List.length_nil, true_and, and_true, Nat.reduceAdd, aW_F, aW_A, aW_P, aW_w, abs_eq, O_asti_eq, v170, cl_eq, ST_id, MT_gs, ST_gs, PT_gs, ZT_gs, NT_gs, ET_gs, se_X7_in, se_X7_tryOrders, bI_eq, inL_lit, c, d, hi, ht, e])
        ((repeat' (with_reducible first | apply And.intro | intro _)) <;> first | (with_reducible assumption) | (with_reducible exact Nat.zero_le _) | contradiction | (simp only [Option.toList_none, Option.toList_some] at hr; with_reducible assumption) | (simp_all; done) | assumption)
  · rw [if_neg c] at hr
    have c := bnot c
    rw [if_pos c] at hr
    (refine nx_ok C (cuts := cut_X7_fault) 1000 _ _ _ _ ?_; simp only [w_X7_fault, ops_eq, xst_eq, call_eq, oK_eq, Option.toList_some, Option.toList_none, List.cons_append, List.nil_append, List.length_cons, List.length_nil, true_and, and_true, Nat.reduceAdd, aW_F, aW_A, aW_P, aW_w, abs_eq, O_asti_eq, v170, cl_eq, ST_id, MT_gs, ST_gs, PT_gs, ZT_gs, NT_gs, ET_gs, se_X7_in, se_X7_tryOrders, bI_eq, inL_lit, c])
    ((repeat' (with_reducible first | apply And.intro | intro _)) <;> first | (with_reducible assumption) | (with_reducible exact Nat.zero_le _) | contradiction | (simp only [Option.toList_none, Option.toList_some] at hr; with_reducible assumption) | (simp_all; done) | assumption)
def spc_X7_fault (S : ST) (M : MT) (fl : Bool) (w : Int32) (K : Option Value → QT → Prop) : Prop := (S.inv 400000 ∧ isN M.textLong M.tn 60 ∧ fl = false) ∧ K (some (.int (if inR w 0 1 = false then -1000001 else if (tryM S M).faultReason = 0 then -1000004 else if w = 0 then (tryM S M).faultAt else (tryM S M).faultReason))) ((if inR w 0 1 = true then (S, tryM S M, false) else (S, M, fl)))
def sp_X7_fault : Sp QT := fun av q K => match av with
  | [.ref 0, .int w] => spc_X7_fault q.1 q.2.1 q.2.2 w K
  | _ => False
theorem se_X7_fault (S : ST) (M : MT) (fl : Bool) (w : Int32) (K : Option Value → QT → Prop) : sp_X7_fault [.ref 0, .int w] (S, M, fl) K = ((S.inv 400000 ∧ isN M.textLong M.tn 60 ∧ fl = false) ∧ K (some (.int (if inR w 0 1 = false then -1000001 else if (tryM S M).faultReason = 0 then -1000004 else if w = 0 then (tryM S M).faultAt else (tryM S M).faultReason))) ((if inR w 0 1 = true then (S, tryM S M, false) else (S, M, fl)))) := rfl
theorem spok_X7_fault : SpOk yX7_fault cX7_fault 2 (some .int) 11 aW sp_X7_fault := by
  intro av q K h
  unfold sp_X7_fault at h
  split at h
  · rename_i w; refine ⟨_, _, ?_, con_X7_fault q.1 q.2.1 q.2.2 w h.1, h.2⟩; trivial
  · exact h.elim
def playR (S : ST) (M : MT) : ST × MT := ordR 61 S ((tryM S M).saveA S).ini
theorem saveA_txt (M : MT) (S : ST) : (M.saveA S).text = M.text ∧ (M.saveA S).textLong = M.textLong := by
  unfold MT.saveA
  split <;> exact ⟨rfl, rfl⟩
def cod_X7_play : List (Nat × Op QT) := [(0, O_aload 0 1), (1, O_callV 0 0 (fun S => S) (fun _ S' => S') sp_X7_tryOrders), (4, O_aload 0 1), (5, O_getf aW 7 11), (8, O_if_eq 14), (11, O_int (-1000002) 2), (13, O_iret), (14, O_aload 0 1), (15, O_callV 0 0 (fun S => S) (fun _ S' => S') spa_X7_save), (18, O_aload 0 1), (19, O_callV 0 0 (fun S => S) (fun _ S' => S') sp_X7_doOrders), (22, O_aload 0 1), (23, O_getf aW 7 12), (26, O_iret)]
abbrev cut_X7_play : List Nat := []
set_option maxRecDepth 100000 in
theorem okc_X7_play {E : En} (F : Fx E RX7 cX7_play 1 11) (G : Fr E (some .int)) : CodOk E aW cod_X7_play := by
  unfold CodOk cod_X7_play
  refine List.forall_mem_cons.mpr ⟨ok_aload_n F dX7_play_0 rfl (by decide), ?_⟩
  refine List.forall_mem_cons.mpr ⟨ok_callV F spok_X7_tryOrders (ln_id aW) rcv_aW (by decide +kernel) (by decide) dX7_play_1 (by decide), ?_⟩
  refine List.forall_mem_cons.mpr ⟨ok_aload_n F dX7_play_4 rfl (by decide), ?_⟩
  refine List.forall_mem_cons.mpr ⟨ok_getf F flX7_261 dX7_play_5 (by decide), ?_⟩
  refine List.forall_mem_cons.mpr ⟨ok_if_eq F dX7_play_8 (by decide) (by decide) (by decide), ?_⟩
  refine List.forall_mem_cons.mpr ⟨ok_ldc F (ix := 123) (wsHas_mem (l := [Jvm.Cond.constant RX7 123 (-1000002)]) (by decide +kernel) (by simp)) dX7_play_11 (by decide), ?_⟩
  refine List.forall_mem_cons.mpr ⟨ok_iret F G dX7_play_13 (by decide), ?_⟩
  refine List.forall_mem_cons.mpr ⟨ok_aload_n F dX7_play_14 rfl (by decide), ?_⟩
  refine List.forall_mem_cons.mpr ⟨ok_callV F spoka_X7_save (ln_id aW) rcv_aW (by decide +kernel) (by decide) dX7_play_15 (by decide), ?_⟩
  refine List.forall_mem_cons.mpr ⟨ok_aload_n F dX7_play_18 rfl (by decide), ?_⟩
  refine List.forall_mem_cons.mpr ⟨ok_callV F spok_X7_doOrders (ln_id aW) rcv_aW (by decide +kernel) (by decide) dX7_play_19 (by decide), ?_⟩
  refine List.forall_mem_cons.mpr ⟨ok_aload_n F dX7_play_22 rfl (by decide), ?_⟩
  refine List.forall_mem_cons.mpr ⟨ok_getf F flX7_264 dX7_play_23 (by decide), ?_⟩
  refine List.forall_mem_cons.mpr ⟨ok_iret F G dX7_play_26 (by decide), ?_⟩
  exact fun _ h => absurd h List.not_mem_nil
set_option maxRecDepth 100000 in
theorem w_X7_play : (∀ (K : Kt QT) (n : Nat) (L : xL) (st : List Value) (S : QT), nx cod_X7_play cut_X7_play K (n + 1) 0 L st S = (O_aload 0 1) (nx cod_X7_play cut_X7_play K n) 0 L st S) ∧
  (∀ (K : Kt QT) (n : Nat) (L : xL) (st : List Value) (S : QT), nx cod_X7_play cut_X7_play K (n + 1) 1 L st S = (O_callV 0 0 (fun S => S) (fun _ S' => S') sp_X7_tryOrders) (nx cod_X7_play cut_X7_play K n) 1 L st S) ∧
  (∀ (K : Kt QT) (n : Nat) (L : xL) (st : List Value) (S : QT), nx cod_X7_play cut_X7_play K (n + 1) 4 L st S = (O_aload 0 1) (nx cod_X7_play cut_X7_play K n) 4 L st S) ∧
  (∀ (K : Kt QT) (n : Nat) (L : xL) (st : List Value) (S : QT), nx cod_X7_play cut_X7_play K (n + 1) 5 L st S = (O_getf aW 7 11) (nx cod_X7_play cut_X7_play K n) 5 L st S) ∧
  (∀ (K : Kt QT) (n : Nat) (L : xL) (st : List Value) (S : QT), nx cod_X7_play cut_X7_play K (n + 1) 8 L st S = (O_if_eq 14) (nx cod_X7_play cut_X7_play K n) 8 L st S) ∧
  (∀ (K : Kt QT) (n : Nat) (L : xL) (st : List Value) (S : QT), nx cod_X7_play cut_X7_play K (n + 1) 11 L st S = (O_int (-1000002) 2) (nx cod_X7_play cut_X7_play K n) 11 L st S) ∧
  (∀ (K : Kt QT) (n : Nat) (L : xL) (st : List Value) (S : QT), nx cod_X7_play cut_X7_play K (n + 1) 13 L st S = (O_iret) (nx cod_X7_play cut_X7_play K n) 13 L st S) ∧
  (∀ (K : Kt QT) (n : Nat) (L : xL) (st : List Value) (S : QT), nx cod_X7_play cut_X7_play K (n + 1) 14 L st S = (O_aload 0 1) (nx cod_X7_play cut_X7_play K n) 14 L st S) ∧
  (∀ (K : Kt QT) (n : Nat) (L : xL) (st : List Value) (S : QT), nx cod_X7_play cut_X7_play K (n + 1) 15 L st S = (O_callV 0 0 (fun S => S) (fun _ S' => S') spa_X7_save) (nx cod_X7_play cut_X7_play K n) 15 L st S) ∧
  (∀ (K : Kt QT) (n : Nat) (L : xL) (st : List Value) (S : QT), nx cod_X7_play cut_X7_play K (n + 1) 18 L st S = (O_aload 0 1) (nx cod_X7_play cut_X7_play K n) 18 L st S) ∧
  (∀ (K : Kt QT) (n : Nat) (L : xL) (st : List Value) (S : QT), nx cod_X7_play cut_X7_play K (n + 1) 19 L st S = (O_callV 0 0 (fun S => S) (fun _ S' => S') sp_X7_doOrders) (nx cod_X7_play cut_X7_play K n) 19 L st S) ∧
  (∀ (K : Kt QT) (n : Nat) (L : xL) (st : List Value) (S : QT), nx cod_X7_play cut_X7_play K (n + 1) 22 L st S = (O_aload 0 1) (nx cod_X7_play cut_X7_play K n) 22 L st S) ∧
  (∀ (K : Kt QT) (n : Nat) (L : xL) (st : List Value) (S : QT), nx cod_X7_play cut_X7_play K (n + 1) 23 L st S = (O_getf aW 7 12) (nx cod_X7_play cut_X7_play K n) 23 L st S) ∧
  (∀ (K : Kt QT) (n : Nat) (L : xL) (st : List Value) (S : QT), nx cod_X7_play cut_X7_play K (n + 1) 26 L st S = (O_iret) (nx cod_X7_play cut_X7_play K n) 26 L st S) ∧
  (∀ (K : Kt QT) (n : Nat) (L : xL) (st : List Value) (S : QT), nx cod_X7_play cut_X7_play K (n + 1) 100000 L st S = K 100000 L st S) := by
  repeat' apply And.intro
  all_goals (intros; rfl)
set_option maxRecDepth 100000 in
theorem mk_X7_play {P P' : QT} {r : Option Value}  (body : ∀ E : En, CodOk E aW cod_X7_play → Gd E aW 100000 [] r.toList P' → Gd E aW 0 [some (.ref 0)] [] P) : Con yX7_play cX7_play 1 (some .int) 11 aW [.ref 0] P r P' :=
  Con.of (by decide) ((aW_len P').trans (aW_len P).symm) rfl (Nat.le_of_ble_eq_true rfl) (fun E F G hr => body E (okc_X7_play F G) hr)
set_option maxRecDepth 10000 in
theorem con_X7_play (S : ST) (M : MT) (fl : Bool)  (hp : S.inv 400000 ∧ isN M.textLong M.tn 60 ∧ isN M.savedMany M.k 4 ∧ fl = false) : Con yX7_play cX7_play 1 (some .int) 11 aW [.ref 0] (S, M, fl) (some (.int (if (tryM S M).faultReason = 0 then (playR S M).2.done else -1000002))) ((if (tryM S M).faultReason = 0 then ((playR S M).1, (playR S M).2, false) else (S, tryM S M, false))) := by
  refine mk_X7_play (fun E C hr => ?_)
  obtain ⟨hi, ht, hs, rfl⟩ := hp
  have hq := tryM_kq S M
  have hs2 : isN (tryM S M).savedMany (tryM S M).k 4 := by
    unfold MT.k
    rw [hq.2.2.2.1]
    exact hs
  have ht2 : isN (tryM S M).textLong (tryM S M).tn 60 := by
    unfold MT.tn
    rw [hq.2.1]
    exact ht
  have ht3 : isN ((tryM S M).saveA S).textLong ((tryM S M).saveA S).tn 60 := by
    unfold MT.tn
    rw [(saveA_txt _ S).2]
    exact ht2
  by_cases d : (tryM S M).faultReason = 0
  · rw [if_pos d, if_pos d] at hr
    unfold playR at hr
    clear hq
    (refine nx_ok C (cuts := cut_X7_play) 1000 _ _ _ _ ?_; simp only [w_X7_play, ops_eq, xst_eq, call_eq, oK_eq, Option.toList_some, Option.toList_none, List.cons_append, List.nil_append, List.length_cons, List.length_nil, true_and, and_true, Nat.reduceAdd, aW_F, aW_A, aW_P, aW_w, abs_eq, O_asti_eq, v170, cl_eq, ST_id, MT_gs, ST_gs, PT_gs, ZT_gs, NT_gs, ET_gs, se_X7_tryOrders, sea_X7_save, se_X7_doOrders, d, hi, ht, hs2, ht3])
    ((repeat' (with_reducible first | apply And.intro | intro _)) <;> first | (with_reducible assumption) | (with_reducible exact Nat.zero_le _) | contradiction | (simp only [Option.toList_none, Option.toList_some] at hr; with_reducible assumption) | (simp_all; done) | assumption)
  · rw [if_neg d, if_neg d] at hr
    clear hq
    (refine nx_ok C (cuts := cut_X7_play) 1000 _ _ _ _ ?_; simp only [w_X7_play, ops_eq, xst_eq, call_eq, oK_eq, Option.toList_some, Option.toList_none, List.cons_append, List.nil_append, List.length_cons, List.length_nil, true_and, and_true, Nat.reduceAdd, aW_F, aW_A, aW_P, aW_w, abs_eq, O_asti_eq, v170, cl_eq, ST_id, MT_gs, ST_gs, PT_gs, ZT_gs, NT_gs, ET_gs, se_X7_tryOrders, sea_X7_save, se_X7_doOrders, d, hi, ht])
    ((repeat' (with_reducible first | apply And.intro | intro _)) <;> first | (with_reducible assumption) | (with_reducible exact Nat.zero_le _) | contradiction | (simp only [Option.toList_none, Option.toList_some] at hr; with_reducible assumption) | (simp_all; done) | assumption)
def spc_X7_play (S : ST) (M : MT) (fl : Bool)  (K : Option Value → QT → Prop) : Prop := (S.inv 400000 ∧ isN M.textLong M.tn 60 ∧ isN M.savedMany M.k 4 ∧ fl = false) ∧ K (some (.int (if (tryM S M).faultReason = 0 then (playR S M).2.done else -1000002))) ((if (tryM S M).faultReason = 0 then ((playR S M).1, (playR S M).2, false) else (S, tryM S M, false)))
def sp_X7_play : Sp QT := fun av q K => match av with
  | [.ref 0] => spc_X7_play q.1 q.2.1 q.2.2  K
  | _ => False
theorem se_X7_play (S : ST) (M : MT) (fl : Bool)  (K : Option Value → QT → Prop) : sp_X7_play [.ref 0] (S, M, fl) K = ((S.inv 400000 ∧ isN M.textLong M.tn 60 ∧ isN M.savedMany M.k 4 ∧ fl = false) ∧ K (some (.int (if (tryM S M).faultReason = 0 then (playR S M).2.done else -1000002))) ((if (tryM S M).faultReason = 0 then ((playR S M).1, (playR S M).2, false) else (S, tryM S M, false)))) := rfl
theorem spok_X7_play : SpOk yX7_play cX7_play 1 (some .int) 11 aW sp_X7_play := by
  intro av q K h
  unfold sp_X7_play at h
  split at h
  · refine ⟨_, _, ?_, con_X7_play q.1 q.2.1 q.2.2  h.1, h.2⟩; trivial
  · exact h.elim
