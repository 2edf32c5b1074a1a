/-! ===== the reference: the calls that tell ===== -/
theorem inR_nI {w : Int32} {b : Nat} (h : inR w 0 (nI b) = true) (hb : b < 100000) : ∃ n : Nat, n ≤ b ∧ w = nI n ∧ w.toNatClampNeg = n := by
  obtain ⟨h1, h2⟩ := inR_n h (by decide) (by rw [nI_toInt (by omega)]; omega)
  simp only [inR, decide_eq_true_eq] at h
  have h3 := h.2
  rw [h1, nI_ltI (by omega) (by omega)] at h3
  exact ⟨w.toNatClampNeg, by omega, h1, rfl⟩
theorem inR_rng {w a b : Int32} (h : inR w a b = true) : rng w a.toInt b.toInt := by
  simp only [inR, decide_eq_true_eq, Int32.lt_iff_toInt_lt] at h
  exact ⟨by omega, by omega⟩
theorem wlit2 {w : Int32} (h : inR w 0 2 = true) : w = 0 ∨ w = 1 ∨ w = 2 := by
  obtain ⟨n, hn, rfl, _⟩ := inR_nI (b := 2) h (by omega)
  match n, hn with
  | 0, _ => exact Or.inl rfl
  | 1, _ => exact Or.inr (Or.inl rfl)
  | 2, _ => exact Or.inr (Or.inr (rfl))
theorem wlit3 {w : Int32} (h : inR w 0 3 = true) : w = 0 ∨ w = 1 ∨ w = 2 ∨ w = 3 := by
  obtain ⟨n, hn, rfl, _⟩ := inR_nI (b := 3) h (by omega)
  match n, hn with
  | 0, _ => exact Or.inl rfl
  | 1, _ => exact Or.inr (Or.inl rfl)
  | 2, _ => exact Or.inr (Or.inr (Or.inl rfl))
  | 3, _ => exact Or.inr (Or.inr (Or.inr (rfl)))
theorem wlit9 {w : Int32} (h : inR w 0 9 = true) : w = 0 ∨ w = 1 ∨ w = 2 ∨ w = 3 ∨ w = 4 ∨ w = 5 ∨ w = 6 ∨ w = 7 ∨ w = 8 ∨ w = 9 := by
  obtain ⟨n, hn, rfl, _⟩ := inR_nI (b := 9) h (by omega)
  match n, hn with
  | 0, _ => exact Or.inl rfl
  | 1, _ => exact Or.inr (Or.inl rfl)
  | 2, _ => exact Or.inr (Or.inr (Or.inl rfl))
  | 3, _ => exact Or.inr (Or.inr (Or.inr (Or.inl rfl)))
  | 4, _ => exact Or.inr (Or.inr (Or.inr (Or.inr (Or.inl rfl))))
  | 5, _ => exact Or.inr (Or.inr (Or.inr (Or.inr (Or.inr (Or.inl rfl)))))
  | 6, _ => exact Or.inr (Or.inr (Or.inr (Or.inr (Or.inr (Or.inr (Or.inl rfl))))))
  | 7, _ => exact Or.inr (Or.inr (Or.inr (Or.inr (Or.inr (Or.inr (Or.inr (Or.inl rfl)))))))
  | 8, _ => exact Or.inr (Or.inr (Or.inr (Or.inr (Or.inr (Or.inr (Or.inr (Or.inr (Or.inl rfl))))))))
  | 9, _ => exact Or.inr (Or.inr (Or.inr (Or.inr (Or.inr (Or.inr (Or.inr (Or.inr (Or.inr (rfl)))))))))
theorem wlit14 {w : Int32} (h : inR w 0 14 = true) : w = 0 ∨ w = 1 ∨ w = 2 ∨ w = 3 ∨ w = 4 ∨ w = 5 ∨ w = 6 ∨ w = 7 ∨ w = 8 ∨ w = 9 ∨ w = 10 ∨ w = 11 ∨ w = 12 ∨ w = 13 ∨ w = 14 := by
  obtain ⟨n, hn, rfl, _⟩ := inR_nI (b := 14) h (by omega)
  match n, hn with
  | 0, _ => exact Or.inl rfl
  | 1, _ => exact Or.inr (Or.inl rfl)
  | 2, _ => exact Or.inr (Or.inr (Or.inl rfl))
  | 3, _ => exact Or.inr (Or.inr (Or.inr (Or.inl rfl)))
  | 4, _ => exact Or.inr (Or.inr (Or.inr (Or.inr (Or.inl rfl))))
  | 5, _ => exact Or.inr (Or.inr (Or.inr (Or.inr (Or.inr (Or.inl rfl)))))
  | 6, _ => exact Or.inr (Or.inr (Or.inr (Or.inr (Or.inr (Or.inr (Or.inl rfl))))))
  | 7, _ => exact Or.inr (Or.inr (Or.inr (Or.inr (Or.inr (Or.inr (Or.inr (Or.inl rfl)))))))
  | 8, _ => exact Or.inr (Or.inr (Or.inr (Or.inr (Or.inr (Or.inr (Or.inr (Or.inr (Or.inl rfl))))))))
  | 9, _ => exact Or.inr (Or.inr (Or.inr (Or.inr (Or.inr (Or.inr (Or.inr (Or.inr (Or.inr (Or.inl rfl)))))))))
  | 10, _ => exact Or.inr (Or.inr (Or.inr (Or.inr (Or.inr (Or.inr (Or.inr (Or.inr (Or.inr (Or.inr (Or.inl rfl))))))))))
  | 11, _ => exact Or.inr (Or.inr (Or.inr (Or.inr (Or.inr (Or.inr (Or.inr (Or.inr (Or.inr (Or.inr (Or.inr (Or.inl rfl)))))))))))
  | 12, _ => exact Or.inr (Or.inr (Or.inr (Or.inr (Or.inr (Or.inr (Or.inr (Or.inr (Or.inr (Or.inr (Or.inr (Or.inr (Or.inl rfl))))))))))))
  | 13, _ => exact Or.inr (Or.inr (Or.inr (Or.inr (Or.inr (Or.inr (Or.inr (Or.inr (Or.inr (Or.inr (Or.inr (Or.inr (Or.inr (Or.inl rfl)))))))))))))
  | 14, _ => exact Or.inr (Or.inr (Or.inr (Or.inr (Or.inr (Or.inr (Or.inr (Or.inr (Or.inr (Or.inr (Or.inr (Or.inr (Or.inr (Or.inr (rfl))))))))))))))
theorem lit_s : ((6 : Int32) - 1 = 5) ∧ ((7 : Int32) - 1 = 6) ∧ ((8 : Int32) - 1 = 7) := by decide
theorem bnot {b : Bool} (h : ¬ b = true) : b = false := by cases b <;> simp_all
def cod_X7_curve : List (Nat × Op QT) := [(0, O_aload 0 1), (1, O_iload 1 1), (2, O_callV 1 0 (fun S => S) (fun _ S' => S') sp_X7_isPump), (5, O_if_eq 44), (8, O_iload 2 1), (9, O_i2l), (10, O_long 300 3), (13, O_long 1000 3), (16, O_callS 3 sp_X7_in), (19, O_if_eq 44), (22, O_iload 3 1), (23, O_i2l), (24, O_long 0 1), (25, O_long 2000 3), (28, O_callS 3 sp_X7_in), (31, O_if_eq 44), (34, O_aload 0 1), (35, O_iload 1 1), (36, O_iload 2 1), (37, O_iload 3 1), (38, O_callV 3 0 (fun S => S) (fun _ S' => S') sp_X7_flow), (41, O_goto 46), (44, O_int (-1000001) 2), (46, O_iret)]
abbrev cut_X7_curve : List Nat := []
set_option maxRecDepth 100000 in
theorem okc_X7_curve {E : En} (F : Fx E RX7 cX7_curve 4 2) (G : Fr E (some .int)) : CodOk E aW cod_X7_curve := by
  unfold CodOk cod_X7_curve
  refine List.forall_mem_cons.mpr ⟨ok_aload_n F dX7_curve_0 rfl (by decide), ?_⟩
  refine List.forall_mem_cons.mpr ⟨ok_iload_n F dX7_curve_1 rfl (by decide), ?_⟩
  refine List.forall_mem_cons.mpr ⟨ok_callV F spok_X7_isPump (ln_id aW) rcv_aW (by decide +kernel) (by decide) dX7_curve_2 (by decide), ?_⟩
  refine List.forall_mem_cons.mpr ⟨ok_if_eq F dX7_curve_5 (by decide) (by decide) (by decide), ?_⟩
  refine List.forall_mem_cons.mpr ⟨ok_iload_n F dX7_curve_8 rfl (by decide), ?_⟩
  refine List.forall_mem_cons.mpr ⟨ok_i2l F dX7_curve_9 (by decide), ?_⟩
  refine List.forall_mem_cons.mpr ⟨ok_ldc2 F (ix := 36) (wsHas_mem (l := [Jvm.Cond.constantLong RX7 36 300]) (by decide +kernel) (by simp)) dX7_curve_10 (by decide), ?_⟩
  refine List.forall_mem_cons.mpr ⟨ok_ldc2 F (ix := 40) (wsHas_mem (l := [Jvm.Cond.constantLong RX7 40 1000]) (by decide +kernel) (by simp)) dX7_curve_13 (by decide), ?_⟩
  refine List.forall_mem_cons.mpr ⟨ok_callS F spok_X7_in (by decide +kernel) rfl (by decide) dX7_curve_16 (by decide), ?_⟩
  refine List.forall_mem_cons.mpr ⟨ok_if_eq F dX7_curve_19 (by decide) (by decide) (by decide), ?_⟩
  refine List.forall_mem_cons.mpr ⟨ok_iload_n F dX7_curve_22 rfl (by decide), ?_⟩
  refine List.forall_mem_cons.mpr ⟨ok_i2l F dX7_curve_23 (by decide), ?_⟩
  refine List.forall_mem_cons.mpr ⟨ok_lconst F dX7_curve_24 (by decide) (by decide), ?_⟩
  refine List.forall_mem_cons.mpr ⟨ok_ldc2 F (ix := 71) (wsHas_mem (l := [Jvm.Cond.constantLong RX7 71 2000]) (by decide +kernel) (by simp)) dX7_curve_25 (by decide), ?_⟩
  refine List.forall_mem_cons.mpr ⟨ok_callS F spok_X7_in (by decide +kernel) rfl (by decide) dX7_curve_28 (by decide), ?_⟩
  refine List.forall_mem_cons.mpr ⟨ok_if_eq F dX7_curve_31 (by decide) (by decide) (by decide), ?_⟩
  refine List.forall_mem_cons.mpr ⟨ok_aload_n F dX7_curve_34 rfl (by decide), ?_⟩
  refine List.forall_mem_cons.mpr ⟨ok_iload_n F dX7_curve_35 rfl (by decide), ?_⟩
  refine List.forall_mem_cons.mpr ⟨ok_iload_n F dX7_curve_36 rfl (by decide), ?_⟩
  refine List.forall_mem_cons.mpr ⟨ok_iload_n F dX7_curve_37 rfl (by decide), ?_⟩
  refine List.forall_mem_cons.mpr ⟨ok_callV F spok_X7_flow (ln_id aW) rcv_aW (by decide +kernel) (by decide) dX7_curve_38 (by decide), ?_⟩
  refine List.forall_mem_cons.mpr ⟨ok_goto F dX7_curve_41 (by decide) (by decide) (by decide), ?_⟩
  refine List.forall_mem_cons.mpr ⟨ok_ldc F (ix := 62) (wsHas_mem (l := [Jvm.Cond.constant RX7 62 (-1000001)]) (by decide +kernel) (by simp)) dX7_curve_44 (by decide), ?_⟩
  refine List.forall_mem_cons.mpr ⟨ok_iret F G dX7_curve_46 (by decide), ?_⟩
  exact fun _ h => absurd h List.not_mem_nil
set_option maxRecDepth 100000 in
theorem w_X7_curve : (∀ (K : Kt QT) (n : Nat) (L : xL) (st : List Value) (S : QT), nx cod_X7_curve cut_X7_curve K (n + 1) 0 L st S = (O_aload 0 1) (nx cod_X7_curve cut_X7_curve K n) 0 L st S) ∧
  (∀ (K : Kt QT) (n : Nat) (L : xL) (st : List Value) (S : QT), nx cod_X7_curve cut_X7_curve K (n + 1) 1 L st S = (O_iload 1 1) (nx cod_X7_curve cut_X7_curve K n) 1 L st S) ∧
  (∀ (K : Kt QT) (n : Nat) (L : xL) (st : List Value) (S : QT), nx cod_X7_curve cut_X7_curve K (n + 1) 2 L st S = (O_callV 1 0 (fun S => S) (fun _ S' => S') sp_X7_isPump) (nx cod_X7_curve cut_X7_curve K n) 2 L st S) ∧
  (∀ (K : Kt QT) (n : Nat) (L : xL) (st : List Value) (S : QT), nx cod_X7_curve cut_X7_curve K (n + 1) 5 L st S = (O_if_eq 44) (nx cod_X7_curve cut_X7_curve K n) 5 L st S) ∧
  (∀ (K : Kt QT) (n : Nat) (L : xL) (st : List Value) (S : QT), nx cod_X7_curve cut_X7_curve K (n + 1) 8 L st S = (O_iload 2 1) (nx cod_X7_curve cut_X7_curve K n) 8 L st S) ∧
  (∀ (K : Kt QT) (n : Nat) (L : xL) (st : List Value) (S : QT), nx cod_X7_curve cut_X7_curve K (n + 1) 9 L st S = (O_i2l) (nx cod_X7_curve cut_X7_curve K n) 9 L st S) ∧
  (∀ (K : Kt QT) (n : Nat) (L : xL) (st : List Value) (S : QT), nx cod_X7_curve cut_X7_curve K (n + 1) 10 L st S = (O_long 300 3) (nx cod_X7_curve cut_X7_curve K n) 10 L st S) ∧
  (∀ (K : Kt QT) (n : Nat) (L : xL) (st : List Value) (S : QT), nx cod_X7_curve cut_X7_curve K (n + 1) 13 L st S = (O_long 1000 3) (nx cod_X7_curve cut_X7_curve K n) 13 L st S) ∧
  (∀ (K : Kt QT) (n : Nat) (L : xL) (st : List Value) (S : QT), nx cod_X7_curve cut_X7_curve K (n + 1) 16 L st S = (O_callS 3 sp_X7_in) (nx cod_X7_curve cut_X7_curve K n) 16 L st S) ∧
  (∀ (K : Kt QT) (n : Nat) (L : xL) (st : List Value) (S : QT), nx cod_X7_curve cut_X7_curve K (n + 1) 19 L st S = (O_if_eq 44) (nx cod_X7_curve cut_X7_curve K n) 19 L st S) ∧
  (∀ (K : Kt QT) (n : Nat) (L : xL) (st : List Value) (S : QT), nx cod_X7_curve cut_X7_curve K (n + 1) 22 L st S = (O_iload 3 1) (nx cod_X7_curve cut_X7_curve K n) 22 L st S) ∧
  (∀ (K : Kt QT) (n : Nat) (L : xL) (st : List Value) (S : QT), nx cod_X7_curve cut_X7_curve K (n + 1) 23 L st S = (O_i2l) (nx cod_X7_curve cut_X7_curve K n) 23 L st S) ∧
  (∀ (K : Kt QT) (n : Nat) (L : xL) (st : List Value) (S : QT), nx cod_X7_curve cut_X7_curve K (n + 1) 24 L st S = (O_long 0 1) (nx cod_X7_curve cut_X7_curve K n) 24 L st S) ∧
  (∀ (K : Kt QT) (n : Nat) (L : xL) (st : List Value) (S : QT), nx cod_X7_curve cut_X7_curve K (n + 1) 25 L st S = (O_long 2000 3) (nx cod_X7_curve cut_X7_curve K n) 25 L st S) ∧
  (∀ (K : Kt QT) (n : Nat) (L : xL) (st : List Value) (S : QT), nx cod_X7_curve cut_X7_curve K (n + 1) 28 L st S = (O_callS 3 sp_X7_in) (nx cod_X7_curve cut_X7_curve K n) 28 L st S) ∧
  (∀ (K : Kt QT) (n : Nat) (L : xL) (st : List Value) (S : QT), nx cod_X7_curve cut_X7_curve K (n + 1) 31 L st S = (O_if_eq 44) (nx cod_X7_curve cut_X7_curve K n) 31 L st S) ∧
  (∀ (K : Kt QT) (n : Nat) (L : xL) (st : List Value) (S : QT), nx cod_X7_curve cut_X7_curve K (n + 1) 34 L st S = (O_aload 0 1) (nx cod_X7_curve cut_X7_curve K n) 34 L st S) ∧
  (∀ (K : Kt QT) (n : Nat) (L : xL) (st : List Value) (S : QT), nx cod_X7_curve cut_X7_curve K (n + 1) 35 L st S = (O_iload 1 1) (nx cod_X7_curve cut_X7_curve K n) 35 L st S) ∧
  (∀ (K : Kt QT) (n : Nat) (L : xL) (st : List Value) (S : QT), nx cod_X7_curve cut_X7_curve K (n + 1) 36 L st S = (O_iload 2 1) (nx cod_X7_curve cut_X7_curve K n) 36 L st S) ∧
  (∀ (K : Kt QT) (n : Nat) (L : xL) (st : List Value) (S : QT), nx cod_X7_curve cut_X7_curve K (n + 1) 37 L st S = (O_iload 3 1) (nx cod_X7_curve cut_X7_curve K n) 37 L st S) ∧
  (∀ (K : Kt QT) (n : Nat) (L : xL) (st : List Value) (S : QT), nx cod_X7_curve cut_X7_curve K (n + 1) 38 L st S = (O_callV 3 0 (fun S => S) (fun _ S' => S') sp_X7_flow) (nx cod_X7_curve cut_X7_curve K n) 38 L st S) ∧
  (∀ (K : Kt QT) (n : Nat) (L : xL) (st : List Value) (S : QT), nx cod_X7_curve cut_X7_curve K (n + 1) 41 L st S = (O_goto 46) (nx cod_X7_curve cut_X7_curve K n) 41 L st S) ∧
  (∀ (K : Kt QT) (n : Nat) (L : xL) (st : List Value) (S : QT), nx cod_X7_curve cut_X7_curve K (n + 1) 44 L st S = (O_int (-1000001) 2) (nx cod_X7_curve cut_X7_curve K n) 44 L st S) ∧
  (∀ (K : Kt QT) (n : Nat) (L : xL) (st : List Value) (S : QT), nx cod_X7_curve cut_X7_curve K (n + 1) 46 L st S = (O_iret) (nx cod_X7_curve cut_X7_curve K n) 46 L st S) ∧
  (∀ (K : Kt QT) (n : Nat) (L : xL) (st : List Value) (S : QT), nx cod_X7_curve cut_X7_curve K (n + 1) 100000 L st S = K 100000 L st S) := by
  repeat' apply And.intro
  all_goals (intros; rfl)
set_option maxRecDepth 100000 in
theorem mk_X7_curve {P P' : QT} {r : Option Value} {p0 : Int32} {p1 : Int32} {p2 : Int32} (body : ∀ E : En, CodOk E aW cod_X7_curve → Gd E aW 100000 [] r.toList P' → Gd E aW 0 [some (.ref 0), some (.int p0), some (.int p1), some (.int p2)] [] P) : Con yX7_curve cX7_curve 4 (some .int) 2 aW [.ref 0, .int p0, .int p1, .int p2] P r P' :=
  Con.of (by decide) ((aW_len P').trans (aW_len P).symm) rfl (Nat.le_of_ble_eq_true rfl) (fun E F G hr => body E (okc_X7_curve F G) hr)
set_option maxRecDepth 10000 in
theorem con_X7_curve (S : ST) (M : MT) (fl : Bool) (p : Int32) (s : Int32) (r : Int32) (hp : S.inv 1) : Con yX7_curve cX7_curve 4 (some .int) 2 aW [.ref 0, .int p, .int s, .int r] (S, M, fl) (some (.int (if (S.P.has p && inR s 300 1000 && inR r 0 2000) = false then -1000001 else S.P.flowOf p.toNatClampNeg s r))) ((S, M, fl)) := by
  refine mk_X7_curve (fun E C hr => ?_)
  have hP := hp.1
  have ho := hp.1.1
  clear hp
  by_cases c1 : S.P.has p = true
  · by_cases c2 : inR s 300 1000 = true
    · by_cases c3 : inR r 0 2000 = true
      · have r2 : rng s 0 1000 := rng_mono (inR_rng c2) (by decide) (by decide)
        have r3 : rng r 0 2000 := inR_rng c3
        rw [c1, c2, c3] at hr
        have hr : Gd E aW 100000 [] [.int (S.P.flowOf p.toNatClampNeg s r)] (S, M, fl) := hr
        (refine nx_ok C (cuts := cut_X7_curve) 1000 _ _ _ _ ?_; simp only [w_X7_curve, ops_eq, xst_eq, call_eq, oK_eq, Option.toList_some, Option.toList_none, List.cons_append, List.nil_append, List.length_cons, List.length_nil, true_and, and_true, Nat.reduceAdd, aW_F, aW_A, aW_P, aW_w, abs_eq, O_asti_eq, v170, cl_eq, ST_id, MT_gs, ST_gs, PT_gs, ZT_gs, NT_gs, ET_gs, se_X7_isPump, se_X7_in, se_X7_flow, bI_eq, inL_lit, hP, ho, c1, c2, c3, r2, r3])
        ((repeat' (with_reducible first | apply And.intro | intro _)) <;> first | (with_reducible assumption) | (with_reducible exact Nat.zero_le _) | contradiction | (simp only [Option.toList_none, Option.toList_some] at hr; with_reducible assumption) | (simp_all; done) | assumption)
      · have c3 := bnot c3
        rw [c1, c2, c3] at hr
        (refine nx_ok C (cuts := cut_X7_curve) 1000 _ _ _ _ ?_; simp only [w_X7_curve, ops_eq, xst_eq, call_eq, oK_eq, Option.toList_some, Option.toList_none, List.cons_append, List.nil_append, List.length_cons, List.length_nil, true_and, and_true, Nat.reduceAdd, aW_F, aW_A, aW_P, aW_w, abs_eq, O_asti_eq, v170, cl_eq, ST_id, MT_gs, ST_gs, PT_gs, ZT_gs, NT_gs, ET_gs, se_X7_isPump, se_X7_in, se_X7_flow, bI_eq, inL_lit, hP, ho, c1, c2, c3])
        ((repeat' (with_reducible first | apply And.intro | intro _)) <;> first | (with_reducible assumption) | (with_reducible exact Nat.zero_le _) | contradiction | (simp only [Option.toList_none, Option.toList_some] at hr; with_reducible assumption) | (simp_all; done) | assumption)
    · have c2 := bnot c2
      rw [c1, c2] at hr
      (refine nx_ok C (cuts := cut_X7_curve) 1000 _ _ _ _ ?_; simp only [w_X7_curve, ops_eq, xst_eq, call_eq, oK_eq, Option.toList_some, Option.toList_none, List.cons_append, List.nil_append, List.length_cons, List.length_nil, true_and, and_true, Nat.reduceAdd, aW_F, aW_A, aW_P, aW_w, abs_eq, O_asti_eq, v170, cl_eq, ST_id, MT_gs, ST_gs, PT_gs, ZT_gs, NT_gs, ET_gs, se_X7_isPump, se_X7_in, se_X7_flow, bI_eq, inL_lit, hP, ho, c1, c2])
      ((repeat' (with_reducible first | apply And.intro | intro _)) <;> first | (with_reducible assumption) | (with_reducible exact Nat.zero_le _) | contradiction | (simp only [Option.toList_none, Option.toList_some] at hr; with_reducible assumption) | (simp_all; done) | assumption)
  · have c1 := bnot c1
    rw [c1] at hr
    (refine nx_ok C (cuts := cut_X7_curve) 1000 _ _ _ _ ?_; simp only [w_X7_curve, ops_eq, xst_eq, call_eq, oK_eq, Option.toList_some, Option.toList_none, List.cons_append, List.nil_append, List.length_cons, List.length_nil, true_and, and_true, Nat.reduceAdd, aW_F, aW_A, aW_P, aW_w, abs_eq, O_asti_eq, v170, cl_eq, ST_id, MT_gs, ST_gs, PT_gs, ZT_gs, NT_gs, ET_gs, se_X7_isPump, se_X7_in, se_X7_flow, bI_eq, inL_lit, hP, ho, c1])
    ((repeat' (with_reducible first | apply And.intro | intro _)) <;> first | (with_reducible assumption) | (with_reducible exact Nat.zero_le _) | contradiction | (simp only [Option.toList_none, Option.toList_some] at hr; with_reducible assumption) | (simp_all; done) | assumption)
def spc_X7_curve (S : ST) (M : MT) (fl : Bool) (p : Int32) (s : Int32) (r : Int32) (K : Option Value → QT → Prop) : Prop := (S.inv 1) ∧ K (some (.int (if (S.P.has p && inR s 300 1000 && inR r 0 2000) = false then -1000001 else S.P.flowOf p.toNatClampNeg s r))) ((S, M, fl))
def sp_X7_curve : Sp QT := fun av q K => match av with
  | [.ref 0, .int p, .int s, .int r] => spc_X7_curve q.1 q.2.1 q.2.2 p s r K
  | _ => False
theorem se_X7_curve (S : ST) (M : MT) (fl : Bool) (p : Int32) (s : Int32) (r : Int32) (K : Option Value → QT → Prop) : sp_X7_curve [.ref 0, .int p, .int s, .int r] (S, M, fl) K = ((S.inv 1) ∧ K (some (.int (if (S.P.has p && inR s 300 1000 && inR r 0 2000) = false then -1000001 else S.P.flowOf p.toNatClampNeg s r))) ((S, M, fl))) := rfl
theorem spok_X7_curve : SpOk yX7_curve cX7_curve 4 (some .int) 2 aW sp_X7_curve := by
  intro av q K h
  unfold sp_X7_curve at h
  split at h
  · rename_i p s r; refine ⟨_, _, ?_, con_X7_curve q.1 q.2.1 q.2.2 p s r h.1, h.2⟩; trivial
  · exact h.elim
def cod_X7_readyAt : List (Nat × Op QT) := [(0, O_iload 1 1), (1, O_if_ge 7), (4, O_int (-1000001) 2), (6, O_iret), (7, O_aload 0 1), (8, O_iload 1 1), (9, O_callV 1 0 (fun S => S) (fun _ S' => S') sp_X7_ready), (12, O_istore 2 1), (13, O_iload 2 1), (14, O_int (-1) 1), (15, O_icmp_ne 23), (18, O_int (-1000004) 2), (20, O_goto 24), (23, O_iload 2 1), (24, O_iret)]
abbrev cut_X7_readyAt : List Nat := []
set_option maxRecDepth 100000 in
theorem okc_X7_readyAt {E : En} (F : Fx E RX7 cX7_readyAt 3 5) (G : Fr E (some .int)) : CodOk E aW cod_X7_readyAt := by
  unfold CodOk cod_X7_readyAt
  refine List.forall_mem_cons.mpr ⟨ok_iload_n F dX7_readyAt_0 rfl (by decide), ?_⟩
  refine List.forall_mem_cons.mpr ⟨ok_if_ge F dX7_readyAt_1 (by decide) (by decide) (by decide), ?_⟩
  refine List.forall_mem_cons.mpr ⟨ok_ldc F (ix := 62) (wsHas_mem (l := [Jvm.Cond.constant RX7 62 (-1000001)]) (by decide +kernel) (by simp)) dX7_readyAt_4 (by decide), ?_⟩
  refine List.forall_mem_cons.mpr ⟨ok_iret F G dX7_readyAt_6 (by decide), ?_⟩
  refine List.forall_mem_cons.mpr ⟨ok_aload_n F dX7_readyAt_7 rfl (by decide), ?_⟩
  refine List.forall_mem_cons.mpr ⟨ok_iload_n F dX7_readyAt_8 rfl (by decide), ?_⟩
  refine List.forall_mem_cons.mpr ⟨ok_callV F spok_X7_ready (ln_id aW) rcv_aW (by decide +kernel) (by decide) dX7_readyAt_9 (by decide), ?_⟩
  refine List.forall_mem_cons.mpr ⟨ok_istore_n F dX7_readyAt_12 rfl (by decide) (by decide), ?_⟩
  refine List.forall_mem_cons.mpr ⟨ok_iload_n F dX7_readyAt_13 rfl (by decide), ?_⟩
  refine List.forall_mem_cons.mpr ⟨ok_iconst F dX7_readyAt_14 (by decide) (by decide), ?_⟩
  refine List.forall_mem_cons.mpr ⟨ok_icmp_ne F dX7_readyAt_15 (by decide) (by decide) (by decide), ?_⟩
  refine List.forall_mem_cons.mpr ⟨ok_ldc F (ix := 136) (wsHas_mem (l := [Jvm.Cond.constant RX7 136 (-1000004)]) (by decide +kernel) (by simp)) dX7_readyAt_18 (by decide), ?_⟩
  refine List.forall_mem_cons.mpr ⟨ok_goto F dX7_readyAt_20 (by decide) (by decide) (by decide), ?_⟩
  refine List.forall_mem_cons.mpr ⟨ok_iload_n F dX7_readyAt_23 rfl (by decide), ?_⟩
  refine List.forall_mem_cons.mpr ⟨ok_iret F G dX7_readyAt_24 (by decide), ?_⟩
  exact fun _ h => absurd h List.not_mem_nil
set_option maxRecDepth 100000 in
theorem w_X7_readyAt : (∀ (K : Kt QT) (n : Nat) (L : xL) (st : List Value) (S : QT), nx cod_X7_readyAt cut_X7_readyAt K (n + 1) 0 L st S = (O_iload 1 1) (nx cod_X7_readyAt cut_X7_readyAt K n) 0 L st S) ∧
  (∀ (K : Kt QT) (n : Nat) (L : xL) (st : List Value) (S : QT), nx cod_X7_readyAt cut_X7_readyAt K (n + 1) 1 L st S = (O_if_ge 7) (nx cod_X7_readyAt cut_X7_readyAt K n) 1 L st S) ∧
  (∀ (K : Kt QT) (n : Nat) (L : xL) (st : List Value) (S : QT), nx cod_X7_readyAt cut_X7_readyAt K (n + 1) 4 L st S = (O_int (-1000001) 2) (nx cod_X7_readyAt cut_X7_readyAt K n) 4 L st S) ∧
  (∀ (K : Kt QT) (n : Nat) (L : xL) (st : List Value) (S : QT), nx cod_X7_readyAt cut_X7_readyAt K (n + 1) 6 L st S = (O_iret) (nx cod_X7_readyAt cut_X7_readyAt K n) 6 L st S) ∧
  (∀ (K : Kt QT) (n : Nat) (L : xL) (st : List Value) (S : QT), nx cod_X7_readyAt cut_X7_readyAt K (n + 1) 7 L st S = (O_aload 0 1) (nx cod_X7_readyAt cut_X7_readyAt K n) 7 L st S) ∧
  (∀ (K : Kt QT) (n : Nat) (L : xL) (st : List Value) (S : QT), nx cod_X7_readyAt cut_X7_readyAt K (n + 1) 8 L st S = (O_iload 1 1) (nx cod_X7_readyAt cut_X7_readyAt K n) 8 L st S) ∧
  (∀ (K : Kt QT) (n : Nat) (L : xL) (st : List Value) (S : QT), nx cod_X7_readyAt cut_X7_readyAt K (n + 1) 9 L st S = (O_callV 1 0 (fun S => S) (fun _ S' => S') sp_X7_ready) (nx cod_X7_readyAt cut_X7_readyAt K n) 9 L st S) ∧
  (∀ (K : Kt QT) (n : Nat) (L : xL) (st : List Value) (S : QT), nx cod_X7_readyAt cut_X7_readyAt K (n + 1) 12 L st S = (O_istore 2 1) (nx cod_X7_readyAt cut_X7_readyAt K n) 12 L st S) ∧
  (∀ (K : Kt QT) (n : Nat) (L : xL) (st : List Value) (S : QT), nx cod_X7_readyAt cut_X7_readyAt K (n + 1) 13 L st S = (O_iload 2 1) (nx cod_X7_readyAt cut_X7_readyAt K n) 13 L st S) ∧
  (∀ (K : Kt QT) (n : Nat) (L : xL) (st : List Value) (S : QT), nx cod_X7_readyAt cut_X7_readyAt K (n + 1) 14 L st S = (O_int (-1) 1) (nx cod_X7_readyAt cut_X7_readyAt K n) 14 L st S) ∧
  (∀ (K : Kt QT) (n : Nat) (L : xL) (st : List Value) (S : QT), nx cod_X7_readyAt cut_X7_readyAt K (n + 1) 15 L st S = (O_icmp_ne 23) (nx cod_X7_readyAt cut_X7_readyAt K n) 15 L st S) ∧
  (∀ (K : Kt QT) (n : Nat) (L : xL) (st : List Value) (S : QT), nx cod_X7_readyAt cut_X7_readyAt K (n + 1) 18 L st S = (O_int (-1000004) 2) (nx cod_X7_readyAt cut_X7_readyAt K n) 18 L st S) ∧
  (∀ (K : Kt QT) (n : Nat) (L : xL) (st : List Value) (S : QT), nx cod_X7_readyAt cut_X7_readyAt K (n + 1) 20 L st S = (O_goto 24) (nx cod_X7_readyAt cut_X7_readyAt K n) 20 L st S) ∧
  (∀ (K : Kt QT) (n : Nat) (L : xL) (st : List Value) (S : QT), nx cod_X7_readyAt cut_X7_readyAt K (n + 1) 23 L st S = (O_iload 2 1) (nx cod_X7_readyAt cut_X7_readyAt K n) 23 L st S) ∧
  (∀ (K : Kt QT) (n : Nat) (L : xL) (st : List Value) (S : QT), nx cod_X7_readyAt cut_X7_readyAt K (n + 1) 24 L st S = (O_iret) (nx cod_X7_readyAt cut_X7_readyAt K n) 24 L st S) ∧
  (∀ (K : Kt QT) (n : Nat) (L : xL) (st : List Value) (S : QT), nx cod_X7_readyAt cut_X7_readyAt K (n + 1) 100000 L st S = K 100000 L st S) := by
  repeat' apply And.intro
  all_goals (intros; rfl)
set_option maxRecDepth 100000 in
theorem mk_X7_readyAt {P P' : QT} {r : Option Value} {p0 : Int32} (body : ∀ E : En, CodOk E aW cod_X7_readyAt → Gd E aW 100000 [] r.toList P' → Gd E aW 0 [some (.ref 0), some (.int p0), none] [] P) : Con yX7_readyAt cX7_readyAt 3 (some .int) 5 aW [.ref 0, .int p0] P r P' :=
  Con.of (by decide) ((aW_len P').trans (aW_len P).symm) rfl (Nat.le_of_ble_eq_true rfl) (fun E F G hr => body E (okc_X7_readyAt F G) hr)
set_option maxRecDepth 10000 in
theorem con_X7_readyAt (S : ST) (M : MT) (fl : Bool) (i : Int32) (hp : S.inv 1) : Con yX7_readyAt cX7_readyAt 3 (some .int) 5 aW [.ref 0, .int i] (S, M, fl) (some (.int (if i < 0 then -1000001 else if oI (S.P.inOrd i) = -1 then -1000004 else oI (S.P.inOrd i)))) ((S, M, fl)) := by
  refine mk_X7_readyAt (fun E C hr => ?_)
  have hP := hp.1
  clear hp
  (refine nx_ok C (cuts := cut_X7_readyAt) 1000 _ _ _ _ ?_; simp only [w_X7_readyAt, ops_eq, xst_eq, call_eq, oK_eq, Option.toList_some, Option.toList_none, List.cons_append, List.nil_append, List.length_cons, List.length_nil, true_and, and_true, Nat.reduceAdd, aW_F, aW_A, aW_P, aW_w, abs_eq, O_asti_eq, v170, cl_eq, ST_id, MT_gs, ST_gs, PT_gs, ZT_gs, NT_gs, ET_gs, se_X7_ready, hP])
  ((repeat' (with_reducible first | apply And.intro | intro _)) <;> simp_all [ST_id, MT_gs, ST_gs, PT_gs, ZT_gs, NT_gs, ET_gs])
def spc_X7_readyAt (S : ST) (M : MT) (fl : Bool) (i : Int32) (K : Option Value → QT → Prop) : Prop := (S.inv 1) ∧ K (some (.int (if i < 0 then -1000001 else if oI (S.P.inOrd i) = -1 then -1000004 else oI (S.P.inOrd i)))) ((S, M, fl))
def sp_X7_readyAt : Sp QT := fun av q K => match av with
  | [.ref 0, .int i] => spc_X7_readyAt q.1 q.2.1 q.2.2 i K
  | _ => False
theorem se_X7_readyAt (S : ST) (M : MT) (fl : Bool) (i : Int32) (K : Option Value → QT → Prop) : sp_X7_readyAt [.ref 0, .int i] (S, M, fl) K = ((S.inv 1) ∧ K (some (.int (if i < 0 then -1000001 else if oI (S.P.inOrd i) = -1 then -1000004 else oI (S.P.inOrd i)))) ((S, M, fl))) := rfl
theorem spok_X7_readyAt : SpOk yX7_readyAt cX7_readyAt 3 (some .int) 5 aW sp_X7_readyAt := by
  intro av q K h
  unfold sp_X7_readyAt at h
  split at h
  · rename_i i; refine ⟨_, _, ?_, con_X7_readyAt q.1 q.2.1 q.2.2 i h.1, h.2⟩; trivial
  · exact h.elim
def cod_X7_balance : List (Nat × Op QT) := [(0, O_aload 0 1), (1, O_getf aW 7 0), (4, O_int 14 2), (6, O_ald aW 0), (7, O_if_ne 13), (10, O_int (-1000004) 2), (12, O_iret), (13, O_aload 0 1), (14, O_int 0 1), (15, O_int 5 1), (16, O_callV 2 0 (fun S => S) (fun _ S' => S') sp_X7_of), (19, O_istore 1 1), (20, O_aload 0 1), (21, O_int 0 1), (22, O_int 5 1), (23, O_callV 2 0 (fun S => S) (fun _ S' => S') sp_X7_of), (26, O_istore 2 1), (27, O_int 1 1), (28, O_istore 3 1), (29, O_iload 3 1), (30, O_aload 0 1), (31, O_getf aW 7 0), (34, O_int 14 2), (36, O_ald aW 0), (37, O_icmp_ge 88), (40, O_aload 0 1), (41, O_iload 3 1), (42, O_int 5 1), (43, O_callV 2 0 (fun S => S) (fun _ S' => S') sp_X7_of), (46, O_iload 1 1), (47, O_icmp_le 59), (50, O_aload 0 1), (51, O_iload 3 1), (52, O_int 5 1), (53, O_callV 2 0 (fun S => S) (fun _ S' => S') sp_X7_of), (56, O_goto 60), (59, O_iload 1 1), (60, O_istore 1 1), (61, O_aload 0 1), (62, O_iload 3 1), (63, O_int 5 1), (64, O_callV 2 0 (fun S => S) (fun _ S' => S') sp_X7_of), (67, O_iload 2 1), (68, O_icmp_ge 80), (71, O_aload 0 1), (72, O_iload 3 1), (73, O_int 5 1), (74, O_callV 2 0 (fun S => S) (fun _ S' => S') sp_X7_of), (77, O_goto 81), (80, O_iload 2 1), (81, O_istore 2 1), (82, O_iinc 3 1), (85, O_goto 29), (88, O_iload 1 1), (89, O_iload 2 1), (90, O_isub), (91, O_iret)]
abbrev cut_X7_balance : List Nat := [29]
set_option maxRecDepth 100000 in
theorem okc_X7_balance {E : En} (F : Fx E RX7 cX7_balance 4 1) (G : Fr E (some .int)) : CodOk E aW cod_X7_balance := by
  unfold CodOk cod_X7_balance
  refine List.forall_mem_cons.mpr ⟨ok_aload_n F dX7_balance_0 rfl (by decide), ?_⟩
  refine List.forall_mem_cons.mpr ⟨ok_getf F flX7_7 dX7_balance_1 (by decide), ?_⟩
  refine List.forall_mem_cons.mpr ⟨ok_bipush F dX7_balance_4 (by decide) (by decide), ?_⟩
  refine List.forall_mem_cons.mpr ⟨ok_iald F dX7_balance_6 (by decide), ?_⟩
  refine List.forall_mem_cons.mpr ⟨ok_if_ne F dX7_balance_7 (by decide) (by decide) (by decide), ?_⟩
  refine List.forall_mem_cons.mpr ⟨ok_ldc F (ix := 136) (wsHas_mem (l := [Jvm.Cond.constant RX7 136 (-1000004)]) (by decide +kernel) (by simp)) dX7_balance_10 (by decide), ?_⟩
  refine List.forall_mem_cons.mpr ⟨ok_iret F G dX7_balance_12 (by decide), ?_⟩
  refine List.forall_mem_cons.mpr ⟨ok_aload_n F dX7_balance_13 rfl (by decide), ?_⟩
  refine List.forall_mem_cons.mpr ⟨ok_iconst F dX7_balance_14 (by decide) (by decide), ?_⟩
  refine List.forall_mem_cons.mpr ⟨ok_iconst F dX7_balance_15 (by decide) (by decide), ?_⟩
  refine List.forall_mem_cons.mpr ⟨ok_callV F spok_X7_of (ln_id aW) rcv_aW (by decide +kernel) (by decide) dX7_balance_16 (by decide), ?_⟩
  refine List.forall_mem_cons.mpr ⟨ok_istore_n F dX7_balance_19 rfl (by decide) (by decide), ?_⟩
  refine List.forall_mem_cons.mpr ⟨ok_aload_n F dX7_balance_20 rfl (by decide), ?_⟩
  refine List.forall_mem_cons.mpr ⟨ok_iconst F dX7_balance_21 (by decide) (by decide), ?_⟩
  refine List.forall_mem_cons.mpr ⟨ok_iconst F dX7_balance_22 (by decide) (by decide), ?_⟩
  refine List.forall_mem_cons.mpr ⟨ok_callV F spok_X7_of (ln_id aW) rcv_aW (by decide +kernel) (by decide) dX7_balance_23 (by decide), ?_⟩
  refine List.forall_mem_cons.mpr ⟨ok_istore_n F dX7_balance_26 rfl (by decide) (by decide), ?_⟩
  refine List.forall_mem_cons.mpr ⟨ok_iconst F dX7_balance_27 (by decide) (by decide), ?_⟩
  refine List.forall_mem_cons.mpr ⟨ok_istore_n F dX7_balance_28 rfl (by decide) (by decide), ?_⟩
  refine List.forall_mem_cons.mpr ⟨ok_iload_n F dX7_balance_29 rfl (by decide), ?_⟩
  refine List.forall_mem_cons.mpr ⟨ok_aload_n F dX7_balance_30 rfl (by decide), ?_⟩
  refine List.forall_mem_cons.mpr ⟨ok_getf F flX7_7 dX7_balance_31 (by decide), ?_⟩
  refine List.forall_mem_cons.mpr ⟨ok_bipush F dX7_balance_34 (by decide) (by decide), ?_⟩
  refine List.forall_mem_cons.mpr ⟨ok_iald F dX7_balance_36 (by decide), ?_⟩
  refine List.forall_mem_cons.mpr ⟨ok_icmp_ge F dX7_balance_37 (by decide) (by decide) (by decide), ?_⟩
  refine List.forall_mem_cons.mpr ⟨ok_aload_n F dX7_balance_40 rfl (by decide), ?_⟩
  refine List.forall_mem_cons.mpr ⟨ok_iload_n F dX7_balance_41 rfl (by decide), ?_⟩
  refine List.forall_mem_cons.mpr ⟨ok_iconst F dX7_balance_42 (by decide) (by decide), ?_⟩
  refine List.forall_mem_cons.mpr ⟨ok_callV F spok_X7_of (ln_id aW) rcv_aW (by decide +kernel) (by decide) dX7_balance_43 (by decide), ?_⟩
  refine List.forall_mem_cons.mpr ⟨ok_iload_n F dX7_balance_46 rfl (by decide), ?_⟩
  refine List.forall_mem_cons.mpr ⟨ok_icmp_le F dX7_balance_47 (by decide) (by decide) (by decide), ?_⟩
  refine List.forall_mem_cons.mpr ⟨ok_aload_n F dX7_balance_50 rfl (by decide), ?_⟩
  refine List.forall_mem_cons.mpr ⟨ok_iload_n F dX7_balance_51 rfl (by decide), ?_⟩
  refine List.forall_mem_cons.mpr ⟨ok_iconst F dX7_balance_52 (by decide) (by decide), ?_⟩
  refine List.forall_mem_cons.mpr ⟨ok_callV F spok_X7_of (ln_id aW) rcv_aW (by decide +kernel) (by decide) dX7_balance_53 (by decide), ?_⟩
  refine List.forall_mem_cons.mpr ⟨ok_goto F dX7_balance_56 (by decide) (by decide) (by decide), ?_⟩
  refine List.forall_mem_cons.mpr ⟨ok_iload_n F dX7_balance_59 rfl (by decide), ?_⟩
  refine List.forall_mem_cons.mpr ⟨ok_istore_n F dX7_balance_60 rfl (by decide) (by decide), ?_⟩
  refine List.forall_mem_cons.mpr ⟨ok_aload_n F dX7_balance_61 rfl (by decide), ?_⟩
  refine List.forall_mem_cons.mpr ⟨ok_iload_n F dX7_balance_62 rfl (by decide), ?_⟩
  refine List.forall_mem_cons.mpr ⟨ok_iconst F dX7_balance_63 (by decide) (by decide), ?_⟩
  refine List.forall_mem_cons.mpr ⟨ok_callV F spok_X7_of (ln_id aW) rcv_aW (by decide +kernel) (by decide) dX7_balance_64 (by decide), ?_⟩
  refine List.forall_mem_cons.mpr ⟨ok_iload_n F dX7_balance_67 rfl (by decide), ?_⟩
  refine List.forall_mem_cons.mpr ⟨ok_icmp_ge F dX7_balance_68 (by decide) (by decide) (by decide), ?_⟩
  refine List.forall_mem_cons.mpr ⟨ok_aload_n F dX7_balance_71 rfl (by decide), ?_⟩
  refine List.forall_mem_cons.mpr ⟨ok_iload_n F dX7_balance_72 rfl (by decide), ?_⟩
  refine List.forall_mem_cons.mpr ⟨ok_iconst F dX7_balance_73 (by decide) (by decide), ?_⟩
  refine List.forall_mem_cons.mpr ⟨ok_callV F spok_X7_of (ln_id aW) rcv_aW (by decide +kernel) (by decide) dX7_balance_74 (by decide), ?_⟩
  refine List.forall_mem_cons.mpr ⟨ok_goto F dX7_balance_77 (by decide) (by decide) (by decide), ?_⟩
  refine List.forall_mem_cons.mpr ⟨ok_iload_n F dX7_balance_80 rfl (by decide), ?_⟩
  refine List.forall_mem_cons.mpr ⟨ok_istore_n F dX7_balance_81 rfl (by decide) (by decide), ?_⟩
  refine List.forall_mem_cons.mpr ⟨ok_iinc F dX7_balance_82 (by decide) (by decide) (by decide), ?_⟩
  refine List.forall_mem_cons.mpr ⟨ok_goto F dX7_balance_85 (by decide) (by decide) (by decide), ?_⟩
  refine List.forall_mem_cons.mpr ⟨ok_iload_n F dX7_balance_88 rfl (by decide), ?_⟩
  refine List.forall_mem_cons.mpr ⟨ok_iload_n F dX7_balance_89 rfl (by decide), ?_⟩
  refine List.forall_mem_cons.mpr ⟨ok_isub F dX7_balance_90 (by decide), ?_⟩
  refine List.forall_mem_cons.mpr ⟨ok_iret F G dX7_balance_91 (by decide), ?_⟩
  exact fun _ h => absurd h List.not_mem_nil
set_option maxRecDepth 100000 in
theorem w_X7_balance : (∀ (K : Kt QT) (n : Nat) (L : xL) (st : List Value) (S : QT), nx cod_X7_balance cut_X7_balance K (n + 1) 0 L st S = (O_aload 0 1) (nx cod_X7_balance cut_X7_balance K n) 0 L st S) ∧
  (∀ (K : Kt QT) (n : Nat) (L : xL) (st : List Value) (S : QT), nx cod_X7_balance cut_X7_balance K (n + 1) 1 L st S = (O_getf aW 7 0) (nx cod_X7_balance cut_X7_balance K n) 1 L st S) ∧
  (∀ (K : Kt QT) (n : Nat) (L : xL) (st : List Value) (S : QT), nx cod_X7_balance cut_X7_balance K (n + 1) 4 L st S = (O_int 14 2) (nx cod_X7_balance cut_X7_balance K n) 4 L st S) ∧
  (∀ (K : Kt QT) (n : Nat) (L : xL) (st : List Value) (S : QT), nx cod_X7_balance cut_X7_balance K (n + 1) 6 L st S = (O_ald aW 0) (nx cod_X7_balance cut_X7_balance K n) 6 L st S) ∧
  (∀ (K : Kt QT) (n : Nat) (L : xL) (st : List Value) (S : QT), nx cod_X7_balance cut_X7_balance K (n + 1) 7 L st S = (O_if_ne 13) (nx cod_X7_balance cut_X7_balance K n) 7 L st S) ∧
  (∀ (K : Kt QT) (n : Nat) (L : xL) (st : List Value) (S : QT), nx cod_X7_balance cut_X7_balance K (n + 1) 10 L st S = (O_int (-1000004) 2) (nx cod_X7_balance cut_X7_balance K n) 10 L st S) ∧
  (∀ (K : Kt QT) (n : Nat) (L : xL) (st : List Value) (S : QT), nx cod_X7_balance cut_X7_balance K (n + 1) 12 L st S = (O_iret) (nx cod_X7_balance cut_X7_balance K n) 12 L st S) ∧
  (∀ (K : Kt QT) (n : Nat) (L : xL) (st : List Value) (S : QT), nx cod_X7_balance cut_X7_balance K (n + 1) 13 L st S = (O_aload 0 1) (nx cod_X7_balance cut_X7_balance K n) 13 L st S) ∧
  (∀ (K : Kt QT) (n : Nat) (L : xL) (st : List Value) (S : QT), nx cod_X7_balance cut_X7_balance K (n + 1) 14 L st S = (O_int 0 1) (nx cod_X7_balance cut_X7_balance K n) 14 L st S) ∧
  (∀ (K : Kt QT) (n : Nat) (L : xL) (st : List Value) (S : QT), nx cod_X7_balance cut_X7_balance K (n + 1) 15 L st S = (O_int 5 1) (nx cod_X7_balance cut_X7_balance K n) 15 L st S) ∧
  (∀ (K : Kt QT) (n : Nat) (L : xL) (st : List Value) (S : QT), nx cod_X7_balance cut_X7_balance K (n + 1) 16 L st S = (O_callV 2 0 (fun S => S) (fun _ S' => S') sp_X7_of) (nx cod_X7_balance cut_X7_balance K n) 16 L st S) ∧
  (∀ (K : Kt QT) (n : Nat) (L : xL) (st : List Value) (S : QT), nx cod_X7_balance cut_X7_balance K (n + 1) 19 L st S = (O_istore 1 1) (nx cod_X7_balance cut_X7_balance K n) 19 L st S) ∧
  (∀ (K : Kt QT) (n : Nat) (L : xL) (st : List Value) (S : QT), nx cod_X7_balance cut_X7_balance K (n + 1) 20 L st S = (O_aload 0 1) (nx cod_X7_balance cut_X7_balance K n) 20 L st S) ∧
  (∀ (K : Kt QT) (n : Nat) (L : xL) (st : List Value) (S : QT), nx cod_X7_balance cut_X7_balance K (n + 1) 21 L st S = (O_int 0 1) (nx cod_X7_balance cut_X7_balance K n) 21 L st S) ∧
  (∀ (K : Kt QT) (n : Nat) (L : xL) (st : List Value) (S : QT), nx cod_X7_balance cut_X7_balance K (n + 1) 22 L st S = (O_int 5 1) (nx cod_X7_balance cut_X7_balance K n) 22 L st S) ∧
  (∀ (K : Kt QT) (n : Nat) (L : xL) (st : List Value) (S : QT), nx cod_X7_balance cut_X7_balance K (n + 1) 23 L st S = (O_callV 2 0 (fun S => S) (fun _ S' => S') sp_X7_of) (nx cod_X7_balance cut_X7_balance K n) 23 L st S) ∧
  (∀ (K : Kt QT) (n : Nat) (L : xL) (st : List Value) (S : QT), nx cod_X7_balance cut_X7_balance K (n + 1) 26 L st S = (O_istore 2 1) (nx cod_X7_balance cut_X7_balance K n) 26 L st S) ∧
  (∀ (K : Kt QT) (n : Nat) (L : xL) (st : List Value) (S : QT), nx cod_X7_balance cut_X7_balance K (n + 1) 27 L st S = (O_int 1 1) (nx cod_X7_balance cut_X7_balance K n) 27 L st S) ∧
  (∀ (K : Kt QT) (n : Nat) (L : xL) (st : List Value) (S : QT), nx cod_X7_balance cut_X7_balance K (n + 1) 28 L st S = (O_istore 3 1) (nx cod_X7_balance cut_X7_balance K n) 28 L st S) ∧
  (∀ (K : Kt QT) (n : Nat) (L : xL) (st : List Value) (S : QT), nx cod_X7_balance cut_X7_balance K (n + 1) 29 L st S = K 29 L st S) ∧
  (∀ (K : Kt QT) (n : Nat) (L : xL) (st : List Value) (S : QT), nx1 cod_X7_balance cut_X7_balance K n 29 L st S = (O_iload 3 1) (nx cod_X7_balance cut_X7_balance K n) 29 L st S) ∧
  (∀ (K : Kt QT) (n : Nat) (L : xL) (st : List Value) (S : QT), nx cod_X7_balance cut_X7_balance K (n + 1) 30 L st S = (O_aload 0 1) (nx cod_X7_balance cut_X7_balance K n) 30 L st S) ∧
  (∀ (K : Kt QT) (n : Nat) (L : xL) (st : List Value) (S : QT), nx cod_X7_balance cut_X7_balance K (n + 1) 31 L st S = (O_getf aW 7 0) (nx cod_X7_balance cut_X7_balance K n) 31 L st S) ∧
  (∀ (K : Kt QT) (n : Nat) (L : xL) (st : List Value) (S : QT), nx cod_X7_balance cut_X7_balance K (n + 1) 34 L st S = (O_int 14 2) (nx cod_X7_balance cut_X7_balance K n) 34 L st S) ∧
  (∀ (K : Kt QT) (n : Nat) (L : xL) (st : List Value) (S : QT), nx cod_X7_balance cut_X7_balance K (n + 1) 36 L st S = (O_ald aW 0) (nx cod_X7_balance cut_X7_balance K n) 36 L st S) ∧
  (∀ (K : Kt QT) (n : Nat) (L : xL) (st : List Value) (S : QT), nx cod_X7_balance cut_X7_balance K (n + 1) 37 L st S = (O_icmp_ge 88) (nx cod_X7_balance cut_X7_balance K n) 37 L st S) ∧
  (∀ (K : Kt QT) (n : Nat) (L : xL) (st : List Value) (S : QT), nx cod_X7_balance cut_X7_balance K (n + 1) 40 L st S = (O_aload 0 1) (nx cod_X7_balance cut_X7_balance K n) 40 L st S) ∧
  (∀ (K : Kt QT) (n : Nat) (L : xL) (st : List Value) (S : QT), nx cod_X7_balance cut_X7_balance K (n + 1) 41 L st S = (O_iload 3 1) (nx cod_X7_balance cut_X7_balance K n) 41 L st S) ∧
  (∀ (K : Kt QT) (n : Nat) (L : xL) (st : List Value) (S : QT), nx cod_X7_balance cut_X7_balance K (n + 1) 42 L st S = (O_int 5 1) (nx cod_X7_balance cut_X7_balance K n) 42 L st S) ∧
  (∀ (K : Kt QT) (n : Nat) (L : xL) (st : List Value) (S : QT), nx cod_X7_balance cut_X7_balance K (n + 1) 43 L st S = (O_callV 2 0 (fun S => S) (fun _ S' => S') sp_X7_of) (nx cod_X7_balance cut_X7_balance K n) 43 L st S) ∧
  (∀ (K : Kt QT) (n : Nat) (L : xL) (st : List Value) (S : QT), nx cod_X7_balance cut_X7_balance K (n + 1) 46 L st S = (O_iload 1 1) (nx cod_X7_balance cut_X7_balance K n) 46 L st S) ∧
  (∀ (K : Kt QT) (n : Nat) (L : xL) (st : List Value) (S : QT), nx cod_X7_balance cut_X7_balance K (n + 1) 47 L st S = (O_icmp_le 59) (nx cod_X7_balance cut_X7_balance K n) 47 L st S) ∧
  (∀ (K : Kt QT) (n : Nat) (L : xL) (st : List Value) (S : QT), nx cod_X7_balance cut_X7_balance K (n + 1) 50 L st S = (O_aload 0 1) (nx cod_X7_balance cut_X7_balance K n) 50 L st S) ∧
  (∀ (K : Kt QT) (n : Nat) (L : xL) (st : List Value) (S : QT), nx cod_X7_balance cut_X7_balance K (n + 1) 51 L st S = (O_iload 3 1) (nx cod_X7_balance cut_X7_balance K n) 51 L st S) ∧
  (∀ (K : Kt QT) (n : Nat) (L : xL) (st : List Value) (S : QT), nx cod_X7_balance cut_X7_balance K (n + 1) 52 L st S = (O_int 5 1) (nx cod_X7_balance cut_X7_balance K n) 52 L st S) ∧
  (∀ (K : Kt QT) (n : Nat) (L : xL) (st : List Value) (S : QT), nx cod_X7_balance cut_X7_balance K (n + 1) 53 L st S = (O_callV 2 0 (fun S => S) (fun _ S' => S') sp_X7_of) (nx cod_X7_balance cut_X7_balance K n) 53 L st S) ∧
  (∀ (K : Kt QT) (n : Nat) (L : xL) (st : List Value) (S : QT), nx cod_X7_balance cut_X7_balance K (n + 1) 56 L st S = (O_goto 60) (nx cod_X7_balance cut_X7_balance K n) 56 L st S) ∧
  (∀ (K : Kt QT) (n : Nat) (L : xL) (st : List Value) (S : QT), nx cod_X7_balance cut_X7_balance K (n + 1) 59 L st S = (O_iload 1 1) (nx cod_X7_balance cut_X7_balance K n) 59 L st S) ∧
  (∀ (K : Kt QT) (n : Nat) (L : xL) (st : List Value) (S : QT), nx cod_X7_balance cut_X7_balance K (n + 1) 60 L st S = (O_istore 1 1) (nx cod_X7_balance cut_X7_balance K n) 60 L st S) ∧
  (∀ (K : Kt QT) (n : Nat) (L : xL) (st : List Value) (S : QT), nx cod_X7_balance cut_X7_balance K (n + 1) 61 L st S = (O_aload 0 1) (nx cod_X7_balance cut_X7_balance K n) 61 L st S) ∧
  (∀ (K : Kt QT) (n : Nat) (L : xL) (st : List Value) (S : QT), nx cod_X7_balance cut_X7_balance K (n + 1) 62 L st S = (O_iload 3 1) (nx cod_X7_balance cut_X7_balance K n) 62 L st S) ∧
  (∀ (K : Kt QT) (n : Nat) (L : xL) (st : List Value) (S : QT), nx cod_X7_balance cut_X7_balance K (n + 1) 63 L st S = (O_int 5 1) (nx cod_X7_balance cut_X7_balance K n) 63 L st S) ∧
  (∀ (K : Kt QT) (n : Nat) (L : xL) (st : List Value) (S : QT), nx cod_X7_balance cut_X7_balance K (n + 1) 64 L st S = (O_callV 2 0 (fun S => S) (fun _ S' => S') sp_X7_of) (nx cod_X7_balance cut_X7_balance K n) 64 L st S) ∧
  (∀ (K : Kt QT) (n : Nat) (L : xL) (st : List Value) (S : QT), nx cod_X7_balance cut_X7_balance K (n + 1) 67 L st S = (O_iload 2 1) (nx cod_X7_balance cut_X7_balance K n) 67 L st S) ∧
  (∀ (K : Kt QT) (n : Nat) (L : xL) (st : List Value) (S : QT), nx cod_X7_balance cut_X7_balance K (n + 1) 68 L st S = (O_icmp_ge 80) (nx cod_X7_balance cut_X7_balance K n) 68 L st S) ∧
  (∀ (K : Kt QT) (n : Nat) (L : xL) (st : List Value) (S : QT), nx cod_X7_balance cut_X7_balance K (n + 1) 71 L st S = (O_aload 0 1) (nx cod_X7_balance cut_X7_balance K n) 71 L st S) ∧
  (∀ (K : Kt QT) (n : Nat) (L : xL) (st : List Value) (S : QT), nx cod_X7_balance cut_X7_balance K (n + 1) 72 L st S = (O_iload 3 1) (nx cod_X7_balance cut_X7_balance K n) 72 L st S) ∧
  (∀ (K : Kt QT) (n : Nat) (L : xL) (st : List Value) (S : QT), nx cod_X7_balance cut_X7_balance K (n + 1) 73 L st S = (O_int 5 1) (nx cod_X7_balance cut_X7_balance K n) 73 L st S) ∧
  (∀ (K : Kt QT) (n : Nat) (L : xL) (st : List Value) (S : QT), nx cod_X7_balance cut_X7_balance K (n + 1) 74 L st S = (O_callV 2 0 (fun S => S) (fun _ S' => S') sp_X7_of) (nx cod_X7_balance cut_X7_balance K n) 74 L st S) ∧
  (∀ (K : Kt QT) (n : Nat) (L : xL) (st : List Value) (S : QT), nx cod_X7_balance cut_X7_balance K (n + 1) 77 L st S = (O_goto 81) (nx cod_X7_balance cut_X7_balance K n) 77 L st S) ∧
  (∀ (K : Kt QT) (n : Nat) (L : xL) (st : List Value) (S : QT), nx cod_X7_balance cut_X7_balance K (n + 1) 80 L st S = (O_iload 2 1) (nx cod_X7_balance cut_X7_balance K n) 80 L st S) ∧
  (∀ (K : Kt QT) (n : Nat) (L : xL) (st : List Value) (S : QT), nx cod_X7_balance cut_X7_balance K (n + 1) 81 L st S = (O_istore 2 1) (nx cod_X7_balance cut_X7_balance K n) 81 L st S) ∧
  (∀ (K : Kt QT) (n : Nat) (L : xL) (st : List Value) (S : QT), nx cod_X7_balance cut_X7_balance K (n + 1) 82 L st S = (O_iinc 3 1) (nx cod_X7_balance cut_X7_balance K n) 82 L st S) ∧
  (∀ (K : Kt QT) (n : Nat) (L : xL) (st : List Value) (S : QT), nx cod_X7_balance cut_X7_balance K (n + 1) 85 L st S = (O_goto 29) (nx cod_X7_balance cut_X7_balance K n) 85 L st S) ∧
  (∀ (K : Kt QT) (n : Nat) (L : xL) (st : List Value) (S : QT), nx cod_X7_balance cut_X7_balance K (n + 1) 88 L st S = (O_iload 1 1) (nx cod_X7_balance cut_X7_balance K n) 88 L st S) ∧
  (∀ (K : Kt QT) (n : Nat) (L : xL) (st : List Value) (S : QT), nx cod_X7_balance cut_X7_balance K (n + 1) 89 L st S = (O_iload 2 1) (nx cod_X7_balance cut_X7_balance K n) 89 L st S) ∧
  (∀ (K : Kt QT) (n : Nat) (L : xL) (st : List Value) (S : QT), nx cod_X7_balance cut_X7_balance K (n + 1) 90 L st S = (O_isub) (nx cod_X7_balance cut_X7_balance K n) 90 L st S) ∧
  (∀ (K : Kt QT) (n : Nat) (L : xL) (st : List Value) (S : QT), nx cod_X7_balance cut_X7_balance K (n + 1) 91 L st S = (O_iret) (nx cod_X7_balance cut_X7_balance K n) 91 L st S) ∧
  (∀ (K : Kt QT) (n : Nat) (L : xL) (st : List Value) (S : QT), nx cod_X7_balance cut_X7_balance K (n + 1) 100000 L st S = K 100000 L st S) := by
  repeat' apply And.intro
  all_goals (intros; rfl)
set_option maxRecDepth 100000 in
theorem mk_X7_balance {P P' : QT} {r : Option Value}  (body : ∀ E : En, CodOk E aW cod_X7_balance → Gd E aW 100000 [] r.toList P' → Gd E aW 0 [some (.ref 0), none, none, none] [] P) : Con yX7_balance cX7_balance 4 (some .int) 1 aW [.ref 0] P r P' :=
  Con.of (by decide) ((aW_len P').trans (aW_len P).symm) rfl (Nat.le_of_ble_eq_true rfl) (fun E F G hr => body E (okc_X7_balance F G) hr)
set_option maxRecDepth 10000 in
theorem con_X7_balance (S : ST) (M : MT) (fl : Bool)  (hp : S.inv 1) : Con yX7_balance cX7_balance 4 (some .int) 1 aW [.ref 0] (S, M, fl) (some (.int (if S.P.size = 0 then -1000004 else S.P.mm.2 - S.P.mm.1))) ((S, M, fl)) := by
  refine mk_X7_balance (fun E C hr => ?_)
  have ho := hp.1.1
  have hn6 := ho.2.1
  clear hp
  by_cases c : S.P.size = 0
  · rw [if_pos c] at hr
    (refine nx_ok C (cuts := cut_X7_balance) 1000 _ _ _ _ ?_; simp only [w_X7_balance, ops_eq, xst_eq, call_eq, oK_eq, Option.toList_some, Option.toList_none, List.cons_append, List.nil_append, List.length_cons, List.length_nil, true_and, and_true, Nat.reduceAdd, aW_F, aW_A, aW_P, aW_w, abs_eq, O_asti_eq, v170, cl_eq, ST_id, MT_gs, ST_gs, PT_gs, ZT_gs, NT_gs, ET_gs, se_X7_of, c])
    ((repeat' (with_reducible first | apply And.intro | intro _)) <;> first | (with_reducible assumption) | (with_reducible exact Nat.zero_le _) | contradiction | (simp only [Option.toList_none, Option.toList_some] at hr; with_reducible assumption) | (simp_all; done) | assumption)
  · rw [if_neg c] at hr
    have h0 : 0 < S.P.n := by
      rcases Nat.eq_zero_or_pos S.P.n with q | q
      · exact absurd (by rw [ho.1, q]; rfl) c
      · exact q
    have key : Gd E aW 29 [some (.ref 0), some (.int (S.P.minutes 0)), some (.int (S.P.minutes 0)), some (.int (nI (0 + 1)))] [] (S, M, fl) := by
      refine it_up (f := fun p (q : Int32 × Int32) => (if S.P.minutes (p + 1) < q.1 then S.P.minutes (p + 1) else q.1, if q.2 < S.P.minutes (p + 1) then S.P.minutes (p + 1) else q.2)) (a := (S.P.minutes 0, S.P.minutes 0)) (n := S.P.n - 1) (fun _ _ => True) (fun i q => Gd E aW 29 [some (.ref 0), some (.int q.2), some (.int q.1), some (.int (nI (i + 1)))] [] (S, M, fl)) trivial (fun _ _ _ _ => trivial) (fun i q hi _ hn => ?_) ?_
      · obtain ⟨q1, q2⟩ := q
        have hx := ixs ho (i := i + 1) (by omega)
        dsimp only at hn
        clear hr
        by_cases d1 : S.P.minutes (i + 1) < q1
        · by_cases d2 : q2 < S.P.minutes (i + 1)
          · rw [if_pos d1, if_pos d2] at hn
            (refine nx1_ok C cut_X7_balance 1000 ?_; simp only [w_X7_balance, ops_eq, xst_eq, call_eq, oK_eq, Option.toList_some, Option.toList_none, List.cons_append, List.nil_append, List.length_cons, List.length_nil, true_and, and_true, Nat.reduceAdd, aW_F, aW_A, aW_P, aW_w, abs_eq, O_asti_eq, v170, cl_eq, ST_id, MT_gs, ST_gs, PT_gs, ZT_gs, NT_gs, ET_gs, se_X7_of, hx, v8_eq, get_eq, d1, d2])
            ((repeat' (with_reducible first | apply And.intro | intro _)) <;> first | (with_reducible assumption) | (with_reducible exact Nat.zero_le _) | contradiction | (simp only [Option.toList_none, Option.toList_some] at hr; with_reducible assumption) | (simp_all; done) | assumption)
          · rw [if_pos d1, if_neg d2] at hn
            (refine nx1_ok C cut_X7_balance 1000 ?_; simp only [w_X7_balance, ops_eq, xst_eq, call_eq, oK_eq, Option.toList_some, Option.toList_none, List.cons_append, List.nil_append, List.length_cons, List.length_nil, true_and, and_true, Nat.reduceAdd, aW_F, aW_A, aW_P, aW_w, abs_eq, O_asti_eq, v170, cl_eq, ST_id, MT_gs, ST_gs, PT_gs, ZT_gs, NT_gs, ET_gs, se_X7_of, hx, v8_eq, get_eq, d1, d2])
            ((repeat' (with_reducible first | apply And.intro | intro _)) <;> first | (with_reducible assumption) | (with_reducible exact Nat.zero_le _) | contradiction | (simp only [Option.toList_none, Option.toList_some] at hr; with_reducible assumption) | (simp_all; done) | assumption)
        · by_cases d2 : q2 < S.P.minutes (i + 1)
          · rw [if_neg d1, if_pos d2] at hn
            (refine nx1_ok C cut_X7_balance 1000 ?_; simp only [w_X7_balance, ops_eq, xst_eq, call_eq, oK_eq, Option.toList_some, Option.toList_none, List.cons_append, List.nil_append, List.length_cons, List.length_nil, true_and, and_true, Nat.reduceAdd, aW_F, aW_A, aW_P, aW_w, abs_eq, O_asti_eq, v170, cl_eq, ST_id, MT_gs, ST_gs, PT_gs, ZT_gs, NT_gs, ET_gs, se_X7_of, hx, v8_eq, get_eq, d1, d2])
            ((repeat' (with_reducible first | apply And.intro | intro _)) <;> first | (with_reducible assumption) | (with_reducible exact Nat.zero_le _) | contradiction | (simp only [Option.toList_none, Option.toList_some] at hr; with_reducible assumption) | (simp_all; done) | assumption)
          · rw [if_neg d1, if_neg d2] at hn
            (refine nx1_ok C cut_X7_balance 1000 ?_; simp only [w_X7_balance, ops_eq, xst_eq, call_eq, oK_eq, Option.toList_some, Option.toList_none, List.cons_append, List.nil_append, List.length_cons, List.length_nil, true_and, and_true, Nat.reduceAdd, aW_F, aW_A, aW_P, aW_w, abs_eq, O_asti_eq, v170, cl_eq, ST_id, MT_gs, ST_gs, PT_gs, ZT_gs, NT_gs, ET_gs, se_X7_of, hx, v8_eq, get_eq, d1, d2])
            ((repeat' (with_reducible first | apply And.intro | intro _)) <;> first | (with_reducible assumption) | (with_reducible exact Nat.zero_le _) | contradiction | (simp only [Option.toList_none, Option.toList_some] at hr; with_reducible assumption) | (simp_all; done) | assumption)
      · have hx := ixe ho
        rw [show S.P.n - 1 + 1 = S.P.n by omega]
        have e : it (fun p (q : Int32 × Int32) => (if S.P.minutes (p + 1) < q.1 then S.P.minutes (p + 1) else q.1, if q.2 < S.P.minutes (p + 1) then S.P.minutes (p + 1) else q.2)) (S.P.minutes 0, S.P.minutes 0) (S.P.n - 1) = S.P.mm := rfl
        rw [e]
        (refine nx1_ok C cut_X7_balance 1000 ?_; simp only [w_X7_balance, ops_eq, xst_eq, call_eq, oK_eq, Option.toList_some, Option.toList_none, List.cons_append, List.nil_append, List.length_cons, List.length_nil, true_and, and_true, Nat.reduceAdd, aW_F, aW_A, aW_P, aW_w, abs_eq, O_asti_eq, v170, cl_eq, ST_id, MT_gs, ST_gs, PT_gs, ZT_gs, NT_gs, ET_gs, se_X7_of, hx])
        ((repeat' (with_reducible first | apply And.intro | intro _)) <;> first | (with_reducible assumption) | (with_reducible exact Nat.zero_le _) | contradiction | (simp only [Option.toList_none, Option.toList_some] at hr; with_reducible assumption) | (simp_all; done) | assumption)
    clear hr
    (refine nx_ok C (cuts := cut_X7_balance) 1000 _ _ _ _ ?_; simp only [w_X7_balance, ops_eq, xst_eq, call_eq, oK_eq, Option.toList_some, Option.toList_none, List.cons_append, List.nil_append, List.length_cons, List.length_nil, true_and, and_true, Nat.reduceAdd, aW_F, aW_A, aW_P, aW_w, abs_eq, O_asti_eq, v170, cl_eq, ST_id, MT_gs, ST_gs, PT_gs, ZT_gs, NT_gs, ET_gs, se_X7_of, v8_eq, get_eq, show vp_in 0 6 from by unfold vp_in; decide, c])
    ((repeat' (with_reducible first | apply And.intro | intro _)) <;> first | (with_reducible assumption) | (with_reducible exact Nat.zero_le _) | contradiction | (simp only [Option.toList_none, Option.toList_some] at hr; with_reducible assumption) | (simp_all; done) | assumption)
def spc_X7_balance (S : ST) (M : MT) (fl : Bool)  (K : Option Value → QT → Prop) : Prop := (S.inv 1) ∧ K (some (.int (if S.P.size = 0 then -1000004 else S.P.mm.2 - S.P.mm.1))) ((S, M, fl))
def sp_X7_balance : Sp QT := fun av q K => match av with
  | [.ref 0] => spc_X7_balance q.1 q.2.1 q.2.2  K
  | _ => False
theorem se_X7_balance (S : ST) (M : MT) (fl : Bool)  (K : Option Value → QT → Prop) : sp_X7_balance [.ref 0] (S, M, fl) K = ((S.inv 1) ∧ K (some (.int (if S.P.size = 0 then -1000004 else S.P.mm.2 - S.P.mm.1))) ((S, M, fl))) := rfl
theorem spok_X7_balance : SpOk yX7_balance cX7_balance 4 (some .int) 1 aW sp_X7_balance := by
  intro av q K h
  unfold sp_X7_balance at h
  split at h
  · refine ⟨_, _, ?_, con_X7_balance q.1 q.2.1 q.2.2  h.1, h.2⟩; trivial
  · exact h.elim
theorem PT.of_cases {S : PT} (h : S.inv) {p : Int32} (hh : S.has p = true) {pr : Int32} (hpr : ¬ pr < 0) : (if S.inService p.toNatClampNeg = 0 then (0 : Int32) else 1) = S.inService p.toNatClampNeg ∧ (S.run p.toNatClampNeg = false → S.flowOf p.toNatClampNeg (S.speeds p.toNatClampNeg) pr = 0) := by
  obtain ⟨i, hi, e1, e2⟩ := PT.has_n h.1 hh
  rw [e2]
  obtain ⟨h1, h2, h3, h4, h5⟩ := h.2.1 i hi
  refine ⟨?_, fun hr => ?_⟩
  · rcases h4 with q | q <;> rw [q] <;> rfl
  · rw [run_rng h3 hr]
    exact PT.flowOf_0 _ hpr
theorem nineK : ∀ n, n ≤ 9 → inR (nI n) 0 9 = true := by decide
def cod_X7_pumpOf : List (Nat × Op QT) := [(0, O_aload 0 1), (1, O_iload 1 1), (2, O_callV 1 0 (fun S => S) (fun _ S' => S') sp_X7_isPump), (5, O_if_eq 20), (8, O_iload 2 1), (9, O_i2l), (10, O_long 0 1), (11, O_long 9 3), (14, O_callS 3 sp_X7_in), (17, O_if_ne 23), (20, O_int (-1000001) 2), (22, O_iret), (23, O_iload 2 1), (24, O_switch [(5, 60), (6, 76), (7, 76), (8, 76), (9, 85)] 115), (60, O_aload 0 1), (61, O_getf aW 7 0), (64, O_int 4 1), (65, O_ald aW 0), (66, O_iload 1 1), (67, O_icmp_ne 74), (70, O_int 1 1), (71, O_goto 75), (74, O_int 0 1), (75, O_iret), (76, O_aload 0 1), (77, O_iload 1 1), (78, O_iload 2 1), (79, O_int 1 1), (80, O_isub), (81, O_callV 2 0 (fun S => S) (fun _ S' => S') sp_X7_of), (84, O_iret), (85, O_aload 0 1), (86, O_iload 1 1), (87, O_callV 1 0 (fun S => S) (fun _ S' => S') sp_X7_runs), (90, O_if_eq 113), (93, O_aload 0 1), (94, O_iload 1 1), (95, O_aload 0 1), (96, O_iload 1 1), (97, O_int 4 1), (98, O_callV 2 0 (fun S => S) (fun _ S' => S') sp_X7_of), (101, O_aload 0 1), (102, O_getf aW 7 0), (105, O_int 1 1), (106, O_ald aW 0), (107, O_callV 3 0 (fun S => S) (fun _ S' => S') sp_X7_flow), (110, O_goto 114), (113, O_int 0 1), (114, O_iret), (115, O_aload 0 1), (116, O_iload 1 1), (117, O_iload 2 1), (118, O_callV 2 0 (fun S => S) (fun _ S' => S') sp_X7_of), (121, O_iret)]
abbrev cut_X7_pumpOf : List Nat := []
set_option maxRecDepth 100000 in
theorem okc_X7_pumpOf {E : En} (F : Fx E RX7 cX7_pumpOf 3 2) (G : Fr E (some .int)) : CodOk E aW cod_X7_pumpOf := by
  unfold CodOk cod_X7_pumpOf
  refine List.forall_mem_cons.mpr ⟨ok_aload_n F dX7_pumpOf_0 rfl (by decide), ?_⟩
  refine List.forall_mem_cons.mpr ⟨ok_iload_n F dX7_pumpOf_1 rfl (by decide), ?_⟩
  refine List.forall_mem_cons.mpr ⟨ok_callV F spok_X7_isPump (ln_id aW) rcv_aW (by decide +kernel) (by decide) dX7_pumpOf_2 (by decide), ?_⟩
  refine List.forall_mem_cons.mpr ⟨ok_if_eq F dX7_pumpOf_5 (by decide) (by decide) (by decide), ?_⟩
  refine List.forall_mem_cons.mpr ⟨ok_iload_n F dX7_pumpOf_8 rfl (by decide), ?_⟩
  refine List.forall_mem_cons.mpr ⟨ok_i2l F dX7_pumpOf_9 (by decide), ?_⟩
  refine List.forall_mem_cons.mpr ⟨ok_lconst F dX7_pumpOf_10 (by decide) (by decide), ?_⟩
  refine List.forall_mem_cons.mpr ⟨ok_ldc2 F (ix := 127) (wsHas_mem (l := [Jvm.Cond.constantLong RX7 127 9]) (by decide +kernel) (by simp)) dX7_pumpOf_11 (by decide), ?_⟩
  refine List.forall_mem_cons.mpr ⟨ok_callS F spok_X7_in (by decide +kernel) rfl (by decide) dX7_pumpOf_14 (by decide), ?_⟩
  refine List.forall_mem_cons.mpr ⟨ok_if_ne F dX7_pumpOf_17 (by decide) (by decide) (by decide), ?_⟩
  refine List.forall_mem_cons.mpr ⟨ok_ldc F (ix := 62) (wsHas_mem (l := [Jvm.Cond.constant RX7 62 (-1000001)]) (by decide +kernel) (by simp)) dX7_pumpOf_20 (by decide), ?_⟩
  refine List.forall_mem_cons.mpr ⟨ok_iret F G dX7_pumpOf_22 (by decide), ?_⟩
  refine List.forall_mem_cons.mpr ⟨ok_iload_n F dX7_pumpOf_23 rfl (by decide), ?_⟩
  refine List.forall_mem_cons.mpr ⟨ok_table F dX7_pumpOf_24 (by decide +kernel) (by decide), ?_⟩
  refine List.forall_mem_cons.mpr ⟨ok_aload_n F dX7_pumpOf_60 rfl (by decide), ?_⟩
  refine List.forall_mem_cons.mpr ⟨ok_getf F flX7_7 dX7_pumpOf_61 (by decide), ?_⟩
  refine List.forall_mem_cons.mpr ⟨ok_iconst F dX7_pumpOf_64 (by decide) (by decide), ?_⟩
  refine List.forall_mem_cons.mpr ⟨ok_iald F dX7_pumpOf_65 (by decide), ?_⟩
  refine List.forall_mem_cons.mpr ⟨ok_iload_n F dX7_pumpOf_66 rfl (by decide), ?_⟩
  refine List.forall_mem_cons.mpr ⟨ok_icmp_ne F dX7_pumpOf_67 (by decide) (by decide) (by decide), ?_⟩
  refine List.forall_mem_cons.mpr ⟨ok_iconst F dX7_pumpOf_70 (by decide) (by decide), ?_⟩
  refine List.forall_mem_cons.mpr ⟨ok_goto F dX7_pumpOf_71 (by decide) (by decide) (by decide), ?_⟩
  refine List.forall_mem_cons.mpr ⟨ok_iconst F dX7_pumpOf_74 (by decide) (by decide), ?_⟩
  refine List.forall_mem_cons.mpr ⟨ok_iret F G dX7_pumpOf_75 (by decide), ?_⟩
  refine List.forall_mem_cons.mpr ⟨ok_aload_n F dX7_pumpOf_76 rfl (by decide), ?_⟩
  refine List.forall_mem_cons.mpr ⟨ok_iload_n F dX7_pumpOf_77 rfl (by decide), ?_⟩
  refine List.forall_mem_cons.mpr ⟨ok_iload_n F dX7_pumpOf_78 rfl (by decide), ?_⟩
  refine List.forall_mem_cons.mpr ⟨ok_iconst F dX7_pumpOf_79 (by decide) (by decide), ?_⟩
  refine List.forall_mem_cons.mpr ⟨ok_isub F dX7_pumpOf_80 (by decide), ?_⟩
  refine List.forall_mem_cons.mpr ⟨ok_callV F spok_X7_of (ln_id aW) rcv_aW (by decide +kernel) (by decide) dX7_pumpOf_81 (by decide), ?_⟩
  refine List.forall_mem_cons.mpr ⟨ok_iret F G dX7_pumpOf_84 (by decide), ?_⟩
  refine List.forall_mem_cons.mpr ⟨ok_aload_n F dX7_pumpOf_85 rfl (by decide), ?_⟩
  refine List.forall_mem_cons.mpr ⟨ok_iload_n F dX7_pumpOf_86 rfl (by decide), ?_⟩
  refine List.forall_mem_cons.mpr ⟨ok_callV F spok_X7_runs (ln_id aW) rcv_aW (by decide +kernel) (by decide) dX7_pumpOf_87 (by decide), ?_⟩
  refine List.forall_mem_cons.mpr ⟨ok_if_eq F dX7_pumpOf_90 (by decide) (by decide) (by decide), ?_⟩
  refine List.forall_mem_cons.mpr ⟨ok_aload_n F dX7_pumpOf_93 rfl (by decide), ?_⟩
  refine List.forall_mem_cons.mpr ⟨ok_iload_n F dX7_pumpOf_94 rfl (by decide), ?_⟩
  refine List.forall_mem_cons.mpr ⟨ok_aload_n F dX7_pumpOf_95 rfl (by decide), ?_⟩
  refine List.forall_mem_cons.mpr ⟨ok_iload_n F dX7_pumpOf_96 rfl (by decide), ?_⟩
  refine List.forall_mem_cons.mpr ⟨ok_iconst F dX7_pumpOf_97 (by decide) (by decide), ?_⟩
  refine List.forall_mem_cons.mpr ⟨ok_callV F spok_X7_of (ln_id aW) rcv_aW (by decide +kernel) (by decide) dX7_pumpOf_98 (by decide), ?_⟩
  refine List.forall_mem_cons.mpr ⟨ok_aload_n F dX7_pumpOf_101 rfl (by decide), ?_⟩
  refine List.forall_mem_cons.mpr ⟨ok_getf F flX7_7 dX7_pumpOf_102 (by decide), ?_⟩
  refine List.forall_mem_cons.mpr ⟨ok_iconst F dX7_pumpOf_105 (by decide) (by decide), ?_⟩
  refine List.forall_mem_cons.mpr ⟨ok_iald F dX7_pumpOf_106 (by decide), ?_⟩
  refine List.forall_mem_cons.mpr ⟨ok_callV F spok_X7_flow (ln_id aW) rcv_aW (by decide +kernel) (by decide) dX7_pumpOf_107 (by decide), ?_⟩
  refine List.forall_mem_cons.mpr ⟨ok_goto F dX7_pumpOf_110 (by decide) (by decide) (by decide), ?_⟩
  refine List.forall_mem_cons.mpr ⟨ok_iconst F dX7_pumpOf_113 (by decide) (by decide), ?_⟩
  refine List.forall_mem_cons.mpr ⟨ok_iret F G dX7_pumpOf_114 (by decide), ?_⟩
  refine List.forall_mem_cons.mpr ⟨ok_aload_n F dX7_pumpOf_115 rfl (by decide), ?_⟩
  refine List.forall_mem_cons.mpr ⟨ok_iload_n F dX7_pumpOf_116 rfl (by decide), ?_⟩
  refine List.forall_mem_cons.mpr ⟨ok_iload_n F dX7_pumpOf_117 rfl (by decide), ?_⟩
  refine List.forall_mem_cons.mpr ⟨ok_callV F spok_X7_of (ln_id aW) rcv_aW (by decide +kernel) (by decide) dX7_pumpOf_118 (by decide), ?_⟩
  refine List.forall_mem_cons.mpr ⟨ok_iret F G dX7_pumpOf_121 (by decide), ?_⟩
  exact fun _ h => absurd h List.not_mem_nil
set_option maxRecDepth 100000 in
theorem w_X7_pumpOf : (∀ (K : Kt QT) (n : Nat) (L : xL) (st : List Value) (S : QT), nx cod_X7_pumpOf cut_X7_pumpOf K (n + 1) 0 L st S = (O_aload 0 1) (nx cod_X7_pumpOf cut_X7_pumpOf K n) 0 L st S) ∧
  (∀ (K : Kt QT) (n : Nat) (L : xL) (st : List Value) (S : QT), nx cod_X7_pumpOf cut_X7_pumpOf K (n + 1) 1 L st S = (O_iload 1 1) (nx cod_X7_pumpOf cut_X7_pumpOf K n) 1 L st S) ∧
  (∀ (K : Kt QT) (n : Nat) (L : xL) (st : List Value) (S : QT), nx cod_X7_pumpOf cut_X7_pumpOf K (n + 1) 2 L st S = (O_callV 1 0 (fun S => S) (fun _ S' => S') sp_X7_isPump) (nx cod_X7_pumpOf cut_X7_pumpOf K n) 2 L st S) ∧
  (∀ (K : Kt QT) (n : Nat) (L : xL) (st : List Value) (S : QT), nx cod_X7_pumpOf cut_X7_pumpOf K (n + 1) 5 L st S = (O_if_eq 20) (nx cod_X7_pumpOf cut_X7_pumpOf K n) 5 L st S) ∧
  (∀ (K : Kt QT) (n : Nat) (L : xL) (st : List Value) (S : QT), nx cod_X7_pumpOf cut_X7_pumpOf K (n + 1) 8 L st S = (O_iload 2 1) (nx cod_X7_pumpOf cut_X7_pumpOf K n) 8 L st S) ∧
  (∀ (K : Kt QT) (n : Nat) (L : xL) (st : List Value) (S : QT), nx cod_X7_pumpOf cut_X7_pumpOf K (n + 1) 9 L st S = (O_i2l) (nx cod_X7_pumpOf cut_X7_pumpOf K n) 9 L st S) ∧
  (∀ (K : Kt QT) (n : Nat) (L : xL) (st : List Value) (S : QT), nx cod_X7_pumpOf cut_X7_pumpOf K (n + 1) 10 L st S = (O_long 0 1) (nx cod_X7_pumpOf cut_X7_pumpOf K n) 10 L st S) ∧
  (∀ (K : Kt QT) (n : Nat) (L : xL) (st : List Value) (S : QT), nx cod_X7_pumpOf cut_X7_pumpOf K (n + 1) 11 L st S = (O_long 9 3) (nx cod_X7_pumpOf cut_X7_pumpOf K n) 11 L st S) ∧
  (∀ (K : Kt QT) (n : Nat) (L : xL) (st : List Value) (S : QT), nx cod_X7_pumpOf cut_X7_pumpOf K (n + 1) 14 L st S = (O_callS 3 sp_X7_in) (nx cod_X7_pumpOf cut_X7_pumpOf K n) 14 L st S) ∧
  (∀ (K : Kt QT) (n : Nat) (L : xL) (st : List Value) (S : QT), nx cod_X7_pumpOf cut_X7_pumpOf K (n + 1) 17 L st S = (O_if_ne 23) (nx cod_X7_pumpOf cut_X7_pumpOf K n) 17 L st S) ∧
  (∀ (K : Kt QT) (n : Nat) (L : xL) (st : List Value) (S : QT), nx cod_X7_pumpOf cut_X7_pumpOf K (n + 1) 20 L st S = (O_int (-1000001) 2) (nx cod_X7_pumpOf cut_X7_pumpOf K n) 20 L st S) ∧
  (∀ (K : Kt QT) (n : Nat) (L : xL) (st : List Value) (S : QT), nx cod_X7_pumpOf cut_X7_pumpOf K (n + 1) 22 L st S = (O_iret) (nx cod_X7_pumpOf cut_X7_pumpOf K n) 22 L st S) ∧
  (∀ (K : Kt QT) (n : Nat) (L : xL) (st : List Value) (S : QT), nx cod_X7_pumpOf cut_X7_pumpOf K (n + 1) 23 L st S = (O_iload 2 1) (nx cod_X7_pumpOf cut_X7_pumpOf K n) 23 L st S) ∧
  (∀ (K : Kt QT) (n : Nat) (L : xL) (st : List Value) (S : QT), nx cod_X7_pumpOf cut_X7_pumpOf K (n + 1) 24 L st S = (O_switch [(5, 60), (6, 76), (7, 76), (8, 76), (9, 85)] 115) (nx cod_X7_pumpOf cut_X7_pumpOf K n) 24 L st S) ∧
  (∀ (K : Kt QT) (n : Nat) (L : xL) (st : List Value) (S : QT), nx cod_X7_pumpOf cut_X7_pumpOf K (n + 1) 60 L st S = (O_aload 0 1) (nx cod_X7_pumpOf cut_X7_pumpOf K n) 60 L st S) ∧
  (∀ (K : Kt QT) (n : Nat) (L : xL) (st : List Value) (S : QT), nx cod_X7_pumpOf cut_X7_pumpOf K (n + 1) 61 L st S = (O_getf aW 7 0) (nx cod_X7_pumpOf cut_X7_pumpOf K n) 61 L st S) ∧
  (∀ (K : Kt QT) (n : Nat) (L : xL) (st : List Value) (S : QT), nx cod_X7_pumpOf cut_X7_pumpOf K (n + 1) 64 L st S = (O_int 4 1) (nx cod_X7_pumpOf cut_X7_pumpOf K n) 64 L st S) ∧
  (∀ (K : Kt QT) (n : Nat) (L : xL) (st : List Value) (S : QT), nx cod_X7_pumpOf cut_X7_pumpOf K (n + 1) 65 L st S = (O_ald aW 0) (nx cod_X7_pumpOf cut_X7_pumpOf K n) 65 L st S) ∧
  (∀ (K : Kt QT) (n : Nat) (L : xL) (st : List Value) (S : QT), nx cod_X7_pumpOf cut_X7_pumpOf K (n + 1) 66 L st S = (O_iload 1 1) (nx cod_X7_pumpOf cut_X7_pumpOf K n) 66 L st S) ∧
  (∀ (K : Kt QT) (n : Nat) (L : xL) (st : List Value) (S : QT), nx cod_X7_pumpOf cut_X7_pumpOf K (n + 1) 67 L st S = (O_icmp_ne 74) (nx cod_X7_pumpOf cut_X7_pumpOf K n) 67 L st S) ∧
  (∀ (K : Kt QT) (n : Nat) (L : xL) (st : List Value) (S : QT), nx cod_X7_pumpOf cut_X7_pumpOf K (n + 1) 70 L st S = (O_int 1 1) (nx cod_X7_pumpOf cut_X7_pumpOf K n) 70 L st S) ∧
  (∀ (K : Kt QT) (n : Nat) (L : xL) (st : List Value) (S : QT), nx cod_X7_pumpOf cut_X7_pumpOf K (n + 1) 71 L st S = (O_goto 75) (nx cod_X7_pumpOf cut_X7_pumpOf K n) 71 L st S) ∧
  (∀ (K : Kt QT) (n : Nat) (L : xL) (st : List Value) (S : QT), nx cod_X7_pumpOf cut_X7_pumpOf K (n + 1) 74 L st S = (O_int 0 1) (nx cod_X7_pumpOf cut_X7_pumpOf K n) 74 L st S) ∧
  (∀ (K : Kt QT) (n : Nat) (L : xL) (st : List Value) (S : QT), nx cod_X7_pumpOf cut_X7_pumpOf K (n + 1) 75 L st S = (O_iret) (nx cod_X7_pumpOf cut_X7_pumpOf K n) 75 L st S) ∧
  (∀ (K : Kt QT) (n : Nat) (L : xL) (st : List Value) (S : QT), nx cod_X7_pumpOf cut_X7_pumpOf K (n + 1) 76 L st S = (O_aload 0 1) (nx cod_X7_pumpOf cut_X7_pumpOf K n) 76 L st S) ∧
  (∀ (K : Kt QT) (n : Nat) (L : xL) (st : List Value) (S : QT), nx cod_X7_pumpOf cut_X7_pumpOf K (n + 1) 77 L st S = (O_iload 1 1) (nx cod_X7_pumpOf cut_X7_pumpOf K n) 77 L st S) ∧
  (∀ (K : Kt QT) (n : Nat) (L : xL) (st : List Value) (S : QT), nx cod_X7_pumpOf cut_X7_pumpOf K (n + 1) 78 L st S = (O_iload 2 1) (nx cod_X7_pumpOf cut_X7_pumpOf K n) 78 L st S) ∧
  (∀ (K : Kt QT) (n : Nat) (L : xL) (st : List Value) (S : QT), nx cod_X7_pumpOf cut_X7_pumpOf K (n + 1) 79 L st S = (O_int 1 1) (nx cod_X7_pumpOf cut_X7_pumpOf K n) 79 L st S) ∧
  (∀ (K : Kt QT) (n : Nat) (L : xL) (st : List Value) (S : QT), nx cod_X7_pumpOf cut_X7_pumpOf K (n + 1) 80 L st S = (O_isub) (nx cod_X7_pumpOf cut_X7_pumpOf K n) 80 L st S) ∧
  (∀ (K : Kt QT) (n : Nat) (L : xL) (st : List Value) (S : QT), nx cod_X7_pumpOf cut_X7_pumpOf K (n + 1) 81 L st S = (O_callV 2 0 (fun S => S) (fun _ S' => S') sp_X7_of) (nx cod_X7_pumpOf cut_X7_pumpOf K n) 81 L st S) ∧
  (∀ (K : Kt QT) (n : Nat) (L : xL) (st : List Value) (S : QT), nx cod_X7_pumpOf cut_X7_pumpOf K (n + 1) 84 L st S = (O_iret) (nx cod_X7_pumpOf cut_X7_pumpOf K n) 84 L st S) ∧
  (∀ (K : Kt QT) (n : Nat) (L : xL) (st : List Value) (S : QT), nx cod_X7_pumpOf cut_X7_pumpOf K (n + 1) 85 L st S = (O_aload 0 1) (nx cod_X7_pumpOf cut_X7_pumpOf K n) 85 L st S) ∧
  (∀ (K : Kt QT) (n : Nat) (L : xL) (st : List Value) (S : QT), nx cod_X7_pumpOf cut_X7_pumpOf K (n + 1) 86 L st S = (O_iload 1 1) (nx cod_X7_pumpOf cut_X7_pumpOf K n) 86 L st S) ∧
  (∀ (K : Kt QT) (n : Nat) (L : xL) (st : List Value) (S : QT), nx cod_X7_pumpOf cut_X7_pumpOf K (n + 1) 87 L st S = (O_callV 1 0 (fun S => S) (fun _ S' => S') sp_X7_runs) (nx cod_X7_pumpOf cut_X7_pumpOf K n) 87 L st S) ∧
  (∀ (K : Kt QT) (n : Nat) (L : xL) (st : List Value) (S : QT), nx cod_X7_pumpOf cut_X7_pumpOf K (n + 1) 90 L st S = (O_if_eq 113) (nx cod_X7_pumpOf cut_X7_pumpOf K n) 90 L st S) ∧
  (∀ (K : Kt QT) (n : Nat) (L : xL) (st : List Value) (S : QT), nx cod_X7_pumpOf cut_X7_pumpOf K (n + 1) 93 L st S = (O_aload 0 1) (nx cod_X7_pumpOf cut_X7_pumpOf K n) 93 L st S) ∧
  (∀ (K : Kt QT) (n : Nat) (L : xL) (st : List Value) (S : QT), nx cod_X7_pumpOf cut_X7_pumpOf K (n + 1) 94 L st S = (O_iload 1 1) (nx cod_X7_pumpOf cut_X7_pumpOf K n) 94 L st S) ∧
  (∀ (K : Kt QT) (n : Nat) (L : xL) (st : List Value) (S : QT), nx cod_X7_pumpOf cut_X7_pumpOf K (n + 1) 95 L st S = (O_aload 0 1) (nx cod_X7_pumpOf cut_X7_pumpOf K n) 95 L st S) ∧
  (∀ (K : Kt QT) (n : Nat) (L : xL) (st : List Value) (S : QT), nx cod_X7_pumpOf cut_X7_pumpOf K (n + 1) 96 L st S = (O_iload 1 1) (nx cod_X7_pumpOf cut_X7_pumpOf K n) 96 L st S) ∧
  (∀ (K : Kt QT) (n : Nat) (L : xL) (st : List Value) (S : QT), nx cod_X7_pumpOf cut_X7_pumpOf K (n + 1) 97 L st S = (O_int 4 1) (nx cod_X7_pumpOf cut_X7_pumpOf K n) 97 L st S) ∧
  (∀ (K : Kt QT) (n : Nat) (L : xL) (st : List Value) (S : QT), nx cod_X7_pumpOf cut_X7_pumpOf K (n + 1) 98 L st S = (O_callV 2 0 (fun S => S) (fun _ S' => S') sp_X7_of) (nx cod_X7_pumpOf cut_X7_pumpOf K n) 98 L st S) ∧
  (∀ (K : Kt QT) (n : Nat) (L : xL) (st : List Value) (S : QT), nx cod_X7_pumpOf cut_X7_pumpOf K (n + 1) 101 L st S = (O_aload 0 1) (nx cod_X7_pumpOf cut_X7_pumpOf K n) 101 L st S) ∧
  (∀ (K : Kt QT) (n : Nat) (L : xL) (st : List Value) (S : QT), nx cod_X7_pumpOf cut_X7_pumpOf K (n + 1) 102 L st S = (O_getf aW 7 0) (nx cod_X7_pumpOf cut_X7_pumpOf K n) 102 L st S) ∧
  (∀ (K : Kt QT) (n : Nat) (L : xL) (st : List Value) (S : QT), nx cod_X7_pumpOf cut_X7_pumpOf K (n + 1) 105 L st S = (O_int 1 1) (nx cod_X7_pumpOf cut_X7_pumpOf K n) 105 L st S) ∧
  (∀ (K : Kt QT) (n : Nat) (L : xL) (st : List Value) (S : QT), nx cod_X7_pumpOf cut_X7_pumpOf K (n + 1) 106 L st S = (O_ald aW 0) (nx cod_X7_pumpOf cut_X7_pumpOf K n) 106 L st S) ∧
  (∀ (K : Kt QT) (n : Nat) (L : xL) (st : List Value) (S : QT), nx cod_X7_pumpOf cut_X7_pumpOf K (n + 1) 107 L st S = (O_callV 3 0 (fun S => S) (fun _ S' => S') sp_X7_flow) (nx cod_X7_pumpOf cut_X7_pumpOf K n) 107 L st S) ∧
  (∀ (K : Kt QT) (n : Nat) (L : xL) (st : List Value) (S : QT), nx cod_X7_pumpOf cut_X7_pumpOf K (n + 1) 110 L st S = (O_goto 114) (nx cod_X7_pumpOf cut_X7_pumpOf K n) 110 L st S) ∧
  (∀ (K : Kt QT) (n : Nat) (L : xL) (st : List Value) (S : QT), nx cod_X7_pumpOf cut_X7_pumpOf K (n + 1) 113 L st S = (O_int 0 1) (nx cod_X7_pumpOf cut_X7_pumpOf K n) 113 L st S) ∧
  (∀ (K : Kt QT) (n : Nat) (L : xL) (st : List Value) (S : QT), nx cod_X7_pumpOf cut_X7_pumpOf K (n + 1) 114 L st S = (O_iret) (nx cod_X7_pumpOf cut_X7_pumpOf K n) 114 L st S) ∧
  (∀ (K : Kt QT) (n : Nat) (L : xL) (st : List Value) (S : QT), nx cod_X7_pumpOf cut_X7_pumpOf K (n + 1) 115 L st S = (O_aload 0 1) (nx cod_X7_pumpOf cut_X7_pumpOf K n) 115 L st S) ∧
  (∀ (K : Kt QT) (n : Nat) (L : xL) (st : List Value) (S : QT), nx cod_X7_pumpOf cut_X7_pumpOf K (n + 1) 116 L st S = (O_iload 1 1) (nx cod_X7_pumpOf cut_X7_pumpOf K n) 116 L st S) ∧
  (∀ (K : Kt QT) (n : Nat) (L : xL) (st : List Value) (S : QT), nx cod_X7_pumpOf cut_X7_pumpOf K (n + 1) 117 L st S = (O_iload 2 1) (nx cod_X7_pumpOf cut_X7_pumpOf K n) 117 L st S) ∧
  (∀ (K : Kt QT) (n : Nat) (L : xL) (st : List Value) (S : QT), nx cod_X7_pumpOf cut_X7_pumpOf K (n + 1) 118 L st S = (O_callV 2 0 (fun S => S) (fun _ S' => S') sp_X7_of) (nx cod_X7_pumpOf cut_X7_pumpOf K n) 118 L st S) ∧
  (∀ (K : Kt QT) (n : Nat) (L : xL) (st : List Value) (S : QT), nx cod_X7_pumpOf cut_X7_pumpOf K (n + 1) 121 L st S = (O_iret) (nx cod_X7_pumpOf cut_X7_pumpOf K n) 121 L st S) ∧
  (∀ (K : Kt QT) (n : Nat) (L : xL) (st : List Value) (S : QT), nx cod_X7_pumpOf cut_X7_pumpOf K (n + 1) 100000 L st S = K 100000 L st S) := by
  repeat' apply And.intro
  all_goals (intros; rfl)
set_option maxRecDepth 100000 in
theorem mk_X7_pumpOf {P P' : QT} {r : Option Value} {p0 : Int32} {p1 : Int32} (body : ∀ E : En, CodOk E aW cod_X7_pumpOf → Gd E aW 100000 [] r.toList P' → Gd E aW 0 [some (.ref 0), some (.int p0), some (.int p1)] [] P) : Con yX7_pumpOf cX7_pumpOf 3 (some .int) 2 aW [.ref 0, .int p0, .int p1] P r P' :=
  Con.of (by decide) ((aW_len P').trans (aW_len P).symm) rfl (Nat.le_of_ble_eq_true rfl) (fun E F G hr => body E (okc_X7_pumpOf F G) hr)
set_option maxRecDepth 10000 in
theorem con_X7_pumpOf (S : ST) (M : MT) (fl : Bool) (p : Int32) (w : Int32) (hp : S.inv 1) : Con yX7_pumpOf cX7_pumpOf 3 (some .int) 2 aW [.ref 0, .int p, .int w] (S, M, fl) (some (.int (if S.P.has p = false then -1000001 else S.P.of p.toNatClampNeg S.pressure w p))) ((S, M, fl)) := by
  refine mk_X7_pumpOf (fun E C hr => ?_)
  have hP := hp.1
  have ho := hp.1.1
  have hpr := hp.2.2.2.2.2.1
  have hprs : ¬ S.pressure < 0 := by
    rw [Int32.lt_iff_toInt_lt, iz.1]
    unfold rng at hpr
    omega
  clear hp
  by_cases c1 : S.P.has p = true
  · rw [if_neg (by rw [c1]; decide)] at hr
    obtain ⟨g1, g2⟩ := PT.of_cases hP c1 hprs
    have hv := PT.has_in ho c1
    have hsp := (pumps_rng hP c1).2.2.1
    by_cases c2 : inR w 0 9 = true
    · unfold PT.of at hr
      rw [g1] at hr
      clear g1
      rcases wlit9 c2 with rfl | rfl | rfl | rfl | rfl | rfl | rfl | rfl | rfl | rfl
      · have hr : Gd E aW 100000 [] [.int (S.P.kinds p.toNatClampNeg)] (S, M, fl) := hr
        (refine nx_ok C (cuts := cut_X7_pumpOf) 1000 _ _ _ _ ?_; simp only [w_X7_pumpOf, ops_eq, xst_eq, call_eq, oK_eq, Option.toList_some, Option.toList_none, List.cons_append, List.nil_append, List.length_cons, List.length_nil, true_and, and_true, Nat.reduceAdd, aW_F, aW_A, aW_P, aW_w, abs_eq, O_asti_eq, v170, cl_eq, ST_id, MT_gs, ST_gs, PT_gs, ZT_gs, NT_gs, ET_gs, se_X7_isPump, se_X7_in, se_X7_of, se_X7_runs, se_X7_flow, bI_eq, inL_lit, ho, c1, c2, hv, v8_eq, get_eq, lit_s])
        ((repeat' (with_reducible first | apply And.intro | intro _)) <;> first | (with_reducible assumption) | (with_reducible exact Nat.zero_le _) | contradiction | (simp only [Option.toList_none, Option.toList_some] at hr; with_reducible assumption) | (simp_all; done) | assumption)
      · have hr : Gd E aW 100000 [] [.int (S.P.shutoffs p.toNatClampNeg)] (S, M, fl) := hr
        (refine nx_ok C (cuts := cut_X7_pumpOf) 1000 _ _ _ _ ?_; simp only [w_X7_pumpOf, ops_eq, xst_eq, call_eq, oK_eq, Option.toList_some, Option.toList_none, List.cons_append, List.nil_append, List.length_cons, List.length_nil, true_and, and_true, Nat.reduceAdd, aW_F, aW_A, aW_P, aW_w, abs_eq, O_asti_eq, v170, cl_eq, ST_id, MT_gs, ST_gs, PT_gs, ZT_gs, NT_gs, ET_gs, se_X7_isPump, se_X7_in, se_X7_of, se_X7_runs, se_X7_flow, bI_eq, inL_lit, ho, c1, c2, hv, v8_eq, get_eq, lit_s])
        ((repeat' (with_reducible first | apply And.intro | intro _)) <;> first | (with_reducible assumption) | (with_reducible exact Nat.zero_le _) | contradiction | (simp only [Option.toList_none, Option.toList_some] at hr; with_reducible assumption) | (simp_all; done) | assumption)
      · have hr : Gd E aW 100000 [] [.int (S.P.steeps p.toNatClampNeg)] (S, M, fl) := hr
        (refine nx_ok C (cuts := cut_X7_pumpOf) 1000 _ _ _ _ ?_; simp only [w_X7_pumpOf, ops_eq, xst_eq, call_eq, oK_eq, Option.toList_some, Option.toList_none, List.cons_append, List.nil_append, List.length_cons, List.length_nil, true_and, and_true, Nat.reduceAdd, aW_F, aW_A, aW_P, aW_w, abs_eq, O_asti_eq, v170, cl_eq, ST_id, MT_gs, ST_gs, PT_gs, ZT_gs, NT_gs, ET_gs, se_X7_isPump, se_X7_in, se_X7_of, se_X7_runs, se_X7_flow, bI_eq, inL_lit, ho, c1, c2, hv, v8_eq, get_eq, lit_s])
        ((repeat' (with_reducible first | apply And.intro | intro _)) <;> first | (with_reducible assumption) | (with_reducible exact Nat.zero_le _) | contradiction | (simp only [Option.toList_none, Option.toList_some] at hr; with_reducible assumption) | (simp_all; done) | assumption)
      · have hr : Gd E aW 100000 [] [.int (S.P.inService p.toNatClampNeg)] (S, M, fl) := hr
        (refine nx_ok C (cuts := cut_X7_pumpOf) 1000 _ _ _ _ ?_; simp only [w_X7_pumpOf, ops_eq, xst_eq, call_eq, oK_eq, Option.toList_some, Option.toList_none, List.cons_append, List.nil_append, List.length_cons, List.length_nil, true_and, and_true, Nat.reduceAdd, aW_F, aW_A, aW_P, aW_w, abs_eq, O_asti_eq, v170, cl_eq, ST_id, MT_gs, ST_gs, PT_gs, ZT_gs, NT_gs, ET_gs, se_X7_isPump, se_X7_in, se_X7_of, se_X7_runs, se_X7_flow, bI_eq, inL_lit, ho, c1, c2, hv, v8_eq, get_eq, lit_s])
        ((repeat' (with_reducible first | apply And.intro | intro _)) <;> first | (with_reducible assumption) | (with_reducible exact Nat.zero_le _) | contradiction | (simp only [Option.toList_none, Option.toList_some] at hr; with_reducible assumption) | (simp_all; done) | assumption)
      · have hr : Gd E aW 100000 [] [.int (S.P.speeds p.toNatClampNeg)] (S, M, fl) := hr
        (refine nx_ok C (cuts := cut_X7_pumpOf) 1000 _ _ _ _ ?_; simp only [w_X7_pumpOf, ops_eq, xst_eq, call_eq, oK_eq, Option.toList_some, Option.toList_none, List.cons_append, List.nil_append, List.length_cons, List.length_nil, true_and, and_true, Nat.reduceAdd, aW_F, aW_A, aW_P, aW_w, abs_eq, O_asti_eq, v170, cl_eq, ST_id, MT_gs, ST_gs, PT_gs, ZT_gs, NT_gs, ET_gs, se_X7_isPump, se_X7_in, se_X7_of, se_X7_runs, se_X7_flow, bI_eq, inL_lit, ho, c1, c2, hv, v8_eq, get_eq, lit_s])
        ((repeat' (with_reducible first | apply And.intro | intro _)) <;> first | (with_reducible assumption) | (with_reducible exact Nat.zero_le _) | contradiction | (simp only [Option.toList_none, Option.toList_some] at hr; with_reducible assumption) | (simp_all; done) | assumption)
      · have hr : Gd E aW 100000 [] [.int (bI (decide (S.P.vrb = p)))] (S, M, fl) := hr
        by_cases d : S.P.vrb = p
        · rw [decide_eq_true d] at hr
          (refine nx_ok C (cuts := cut_X7_pumpOf) 1000 _ _ _ _ ?_; simp only [w_X7_pumpOf, ops_eq, xst_eq, call_eq, oK_eq, Option.toList_some, Option.toList_none, List.cons_append, List.nil_append, List.length_cons, List.length_nil, true_and, and_true, Nat.reduceAdd, aW_F, aW_A, aW_P, aW_w, abs_eq, O_asti_eq, v170, cl_eq, ST_id, MT_gs, ST_gs, PT_gs, ZT_gs, NT_gs, ET_gs, se_X7_isPump, se_X7_in, se_X7_of, se_X7_runs, se_X7_flow, bI_eq, inL_lit, ho, c1, c2, hv, v8_eq, get_eq, d])
          ((repeat' (with_reducible first | apply And.intro | intro _)) <;> first | (with_reducible assumption) | (with_reducible exact Nat.zero_le _) | contradiction | (simp only [Option.toList_none, Option.toList_some] at hr; with_reducible assumption) | (simp_all; done) | assumption)
        · rw [decide_eq_false d] at hr
          (refine nx_ok C (cuts := cut_X7_pumpOf) 1000 _ _ _ _ ?_; simp only [w_X7_pumpOf, ops_eq, xst_eq, call_eq, oK_eq, Option.toList_some, Option.toList_none, List.cons_append, List.nil_append, List.length_cons, List.length_nil, true_and, and_true, Nat.reduceAdd, aW_F, aW_A, aW_P, aW_w, abs_eq, O_asti_eq, v170, cl_eq, ST_id, MT_gs, ST_gs, PT_gs, ZT_gs, NT_gs, ET_gs, se_X7_isPump, se_X7_in, se_X7_of, se_X7_runs, se_X7_flow, bI_eq, inL_lit, ho, c1, c2, hv, v8_eq, get_eq, d])
          ((repeat' (with_reducible first | apply And.intro | intro _)) <;> first | (with_reducible assumption) | (with_reducible exact Nat.zero_le _) | contradiction | (simp only [Option.toList_none, Option.toList_some] at hr; with_reducible assumption) | (simp_all; done) | assumption)
      · have hr : Gd E aW 100000 [] [.int (S.P.minutes p.toNatClampNeg)] (S, M, fl) := hr
        (refine nx_ok C (cuts := cut_X7_pumpOf) 1000 _ _ _ _ ?_; simp only [w_X7_pumpOf, ops_eq, xst_eq, call_eq, oK_eq, Option.toList_some, Option.toList_none, List.cons_append, List.nil_append, List.length_cons, List.length_nil, true_and, and_true, Nat.reduceAdd, aW_F, aW_A, aW_P, aW_w, abs_eq, O_asti_eq, v170, cl_eq, ST_id, MT_gs, ST_gs, PT_gs, ZT_gs, NT_gs, ET_gs, se_X7_isPump, se_X7_in, se_X7_of, se_X7_runs, se_X7_flow, bI_eq, inL_lit, ho, c1, c2, hv, v8_eq, get_eq, lit_s])
        ((repeat' (with_reducible first | apply And.intro | intro _)) <;> first | (with_reducible assumption) | (with_reducible exact Nat.zero_le _) | contradiction | (simp only [Option.toList_none, Option.toList_some] at hr; with_reducible assumption) | (simp_all; done) | assumption)
      · have hr : Gd E aW 100000 [] [.int (S.P.since p.toNatClampNeg)] (S, M, fl) := hr
        (refine nx_ok C (cuts := cut_X7_pumpOf) 1000 _ _ _ _ ?_; simp only [w_X7_pumpOf, ops_eq, xst_eq, call_eq, oK_eq, Option.toList_some, Option.toList_none, List.cons_append, List.nil_append, List.length_cons, List.length_nil, true_and, and_true, Nat.reduceAdd, aW_F, aW_A, aW_P, aW_w, abs_eq, O_asti_eq, v170, cl_eq, ST_id, MT_gs, ST_gs, PT_gs, ZT_gs, NT_gs, ET_gs, se_X7_isPump, se_X7_in, se_X7_of, se_X7_runs, se_X7_flow, bI_eq, inL_lit, ho, c1, c2, hv, v8_eq, get_eq, lit_s])
        ((repeat' (with_reducible first | apply And.intro | intro _)) <;> first | (with_reducible assumption) | (with_reducible exact Nat.zero_le _) | contradiction | (simp only [Option.toList_none, Option.toList_some] at hr; with_reducible assumption) | (simp_all; done) | assumption)
      · have hr : Gd E aW 100000 [] [.int (S.P.starts p.toNatClampNeg)] (S, M, fl) := hr
        (refine nx_ok C (cuts := cut_X7_pumpOf) 1000 _ _ _ _ ?_; simp only [w_X7_pumpOf, ops_eq, xst_eq, call_eq, oK_eq, Option.toList_some, Option.toList_none, List.cons_append, List.nil_append, List.length_cons, List.length_nil, true_and, and_true, Nat.reduceAdd, aW_F, aW_A, aW_P, aW_w, abs_eq, O_asti_eq, v170, cl_eq, ST_id, MT_gs, ST_gs, PT_gs, ZT_gs, NT_gs, ET_gs, se_X7_isPump, se_X7_in, se_X7_of, se_X7_runs, se_X7_flow, bI_eq, inL_lit, ho, c1, c2, hv, v8_eq, get_eq, lit_s])
        ((repeat' (with_reducible first | apply And.intro | intro _)) <;> first | (with_reducible assumption) | (with_reducible exact Nat.zero_le _) | contradiction | (simp only [Option.toList_none, Option.toList_some] at hr; with_reducible assumption) | (simp_all; done) | assumption)
      · have hr : Gd E aW 100000 [] [.int (S.P.flowOf p.toNatClampNeg (S.P.speeds p.toNatClampNeg) S.pressure)] (S, M, fl) := hr
        by_cases d : S.P.run p.toNatClampNeg = true
        · (refine nx_ok C (cuts := cut_X7_pumpOf) 1000 _ _ _ _ ?_; simp only [w_X7_pumpOf, ops_eq, xst_eq, call_eq, oK_eq, Option.toList_some, Option.toList_none, List.cons_append, List.nil_append, List.length_cons, List.length_nil, true_and, and_true, Nat.reduceAdd, aW_F, aW_A, aW_P, aW_w, abs_eq, O_asti_eq, v170, cl_eq, ST_id, MT_gs, ST_gs, PT_gs, ZT_gs, NT_gs, ET_gs, se_X7_isPump, se_X7_in, se_X7_of, se_X7_runs, se_X7_flow, bI_eq, inL_lit, ho, hP, c1, c2, hv, v8_eq, get_eq, hsp, hpr, d])
          ((repeat' (with_reducible first | apply And.intro | intro _)) <;> first | (with_reducible assumption) | (with_reducible exact Nat.zero_le _) | contradiction | (simp only [Option.toList_none, Option.toList_some] at hr; with_reducible assumption) | (simp_all; done) | assumption)
        · have d := bnot d
          rw [g2 d] at hr
          (refine nx_ok C (cuts := cut_X7_pumpOf) 1000 _ _ _ _ ?_; simp only [w_X7_pumpOf, ops_eq, xst_eq, call_eq, oK_eq, Option.toList_some, Option.toList_none, List.cons_append, List.nil_append, List.length_cons, List.length_nil, true_and, and_true, Nat.reduceAdd, aW_F, aW_A, aW_P, aW_w, abs_eq, O_asti_eq, v170, cl_eq, ST_id, MT_gs, ST_gs, PT_gs, ZT_gs, NT_gs, ET_gs, se_X7_isPump, se_X7_in, se_X7_of, se_X7_runs, se_X7_flow, bI_eq, inL_lit, ho, hP, c1, c2, hv, v8_eq, get_eq, hsp, hpr, d])
          ((repeat' (with_reducible first | apply And.intro | intro _)) <;> first | (with_reducible assumption) | (with_reducible exact Nat.zero_le _) | contradiction | (simp only [Option.toList_none, Option.toList_some] at hr; with_reducible assumption) | (simp_all; done) | assumption)
    · have hw : ∀ n, n ≤ 9 → ¬ w = nI n := fun n hn e => c2 (by rw [e]; exact nineK n hn)
      have e : S.P.of p.toNatClampNeg S.pressure w p = -1000001 := by
        unfold PT.of
        rw [if_neg (show ¬ w = 0 from hw 0 (by omega)), if_neg (show ¬ w = 1 from hw 1 (by omega)), if_neg (show ¬ w = 2 from hw 2 (by omega)), if_neg (show ¬ w = 3 from hw 3 (by omega)), if_neg (show ¬ w = 4 from hw 4 (by omega)), if_neg (show ¬ w = 5 from hw 5 (by omega)), if_neg (show ¬ w = 6 from hw 6 (by omega)), if_neg (show ¬ w = 7 from hw 7 (by omega)), if_neg (show ¬ w = 8 from hw 8 (by omega)), if_neg (show ¬ w = 9 from hw 9 (by omega))]
      rw [e] at hr
      have c2 := bnot c2
      clear hw g1 g2
      (refine nx_ok C (cuts := cut_X7_pumpOf) 1000 _ _ _ _ ?_; simp only [w_X7_pumpOf, ops_eq, xst_eq, call_eq, oK_eq, Option.toList_some, Option.toList_none, List.cons_append, List.nil_append, List.length_cons, List.length_nil, true_and, and_true, Nat.reduceAdd, aW_F, aW_A, aW_P, aW_w, abs_eq, O_asti_eq, v170, cl_eq, ST_id, MT_gs, ST_gs, PT_gs, ZT_gs, NT_gs, ET_gs, se_X7_isPump, se_X7_in, se_X7_of, se_X7_runs, se_X7_flow, bI_eq, inL_lit, ho, c1, c2])
      ((repeat' (with_reducible first | apply And.intro | intro _)) <;> first | (with_reducible assumption) | (with_reducible exact Nat.zero_le _) | contradiction | (simp only [Option.toList_none, Option.toList_some] at hr; with_reducible assumption) | (simp_all; done) | assumption)
  · have c1 := bnot c1
    rw [if_pos c1] at hr
    (refine nx_ok C (cuts := cut_X7_pumpOf) 1000 _ _ _ _ ?_; simp only [w_X7_pumpOf, ops_eq, xst_eq, call_eq, oK_eq, Option.toList_some, Option.toList_none, List.cons_append, List.nil_append, List.length_cons, List.length_nil, true_and, and_true, Nat.reduceAdd, aW_F, aW_A, aW_P, aW_w, abs_eq, O_asti_eq, v170, cl_eq, ST_id, MT_gs, ST_gs, PT_gs, ZT_gs, NT_gs, ET_gs, se_X7_isPump, se_X7_in, se_X7_of, se_X7_runs, se_X7_flow, bI_eq, inL_lit, ho, c1])
    ((repeat' (with_reducible first | apply And.intro | intro _)) <;> first | (with_reducible assumption) | (with_reducible exact Nat.zero_le _) | contradiction | (simp only [Option.toList_none, Option.toList_some] at hr; with_reducible assumption) | (simp_all; done) | assumption)
def spc_X7_pumpOf (S : ST) (M : MT) (fl : Bool) (p : Int32) (w : Int32) (K : Option Value → QT → Prop) : Prop := (S.inv 1) ∧ K (some (.int (if S.P.has p = false then -1000001 else S.P.of p.toNatClampNeg S.pressure w p))) ((S, M, fl))
def sp_X7_pumpOf : Sp QT := fun av q K => match av with
  | [.ref 0, .int p, .int w] => spc_X7_pumpOf q.1 q.2.1 q.2.2 p w K
  | _ => False
theorem se_X7_pumpOf (S : ST) (M : MT) (fl : Bool) (p : Int32) (w : Int32) (K : Option Value → QT → Prop) : sp_X7_pumpOf [.ref 0, .int p, .int w] (S, M, fl) K = ((S.inv 1) ∧ K (some (.int (if S.P.has p = false then -1000001 else S.P.of p.toNatClampNeg S.pressure w p))) ((S, M, fl))) := rfl
theorem spok_X7_pumpOf : SpOk yX7_pumpOf cX7_pumpOf 3 (some .int) 2 aW sp_X7_pumpOf := by
  intro av q K h
  unfold sp_X7_pumpOf at h
  split at h
  · rename_i p w; refine ⟨_, _, ?_, con_X7_pumpOf q.1 q.2.1 q.2.2 p w h.1, h.2⟩; trivial
  · exact h.elim
def cod_X7_nightAt : List (Nat × Op QT) := [(0, O_iload 1 1), (1, O_if_ge 9), (4, O_int (-1000001) 2), (6, O_goto 34), (9, O_iload 1 1), (10, O_aload 0 1), (11, O_getf aW 7 0), (14, O_int 18 2), (16, O_ald aW 0), (17, O_icmp_ge 32), (20, O_aload 0 1), (21, O_getf aW 7 0), (24, O_int 127 2), (26, O_iload 1 1), (27, O_iadd), (28, O_ald aW 0), (29, O_goto 34), (32, O_int (-1000004) 2), (34, O_iret)]
abbrev cut_X7_nightAt : List Nat := []
set_option maxRecDepth 100000 in
theorem okc_X7_nightAt {E : En} (F : Fx E RX7 cX7_nightAt 2 0) (G : Fr E (some .int)) : CodOk E aW cod_X7_nightAt := by
  unfold CodOk cod_X7_nightAt
  refine List.forall_mem_cons.mpr ⟨ok_iload_n F dX7_nightAt_0 rfl (by decide), ?_⟩
  refine List.forall_mem_cons.mpr ⟨ok_if_ge F dX7_nightAt_1 (by decide) (by decide) (by decide), ?_⟩
  refine List.forall_mem_cons.mpr ⟨ok_ldc F (ix := 62) (wsHas_mem (l := [Jvm.Cond.constant RX7 62 (-1000001)]) (by decide +kernel) (by simp)) dX7_nightAt_4 (by decide), ?_⟩
  refine List.forall_mem_cons.mpr ⟨ok_goto F dX7_nightAt_6 (by decide) (by decide) (by decide), ?_⟩
  refine List.forall_mem_cons.mpr ⟨ok_iload_n F dX7_nightAt_9 rfl (by decide), ?_⟩
  refine List.forall_mem_cons.mpr ⟨ok_aload_n F dX7_nightAt_10 rfl (by decide), ?_⟩
  refine List.forall_mem_cons.mpr ⟨ok_getf F flX7_7 dX7_nightAt_11 (by decide), ?_⟩
  refine List.forall_mem_cons.mpr ⟨ok_bipush F dX7_nightAt_14 (by decide) (by decide), ?_⟩
  refine List.forall_mem_cons.mpr ⟨ok_iald F dX7_nightAt_16 (by decide), ?_⟩
  refine List.forall_mem_cons.mpr ⟨ok_icmp_ge F dX7_nightAt_17 (by decide) (by decide) (by decide), ?_⟩
  refine List.forall_mem_cons.mpr ⟨ok_aload_n F dX7_nightAt_20 rfl (by decide), ?_⟩
  refine List.forall_mem_cons.mpr ⟨ok_getf F flX7_7 dX7_nightAt_21 (by decide), ?_⟩
  refine List.forall_mem_cons.mpr ⟨ok_bipush F dX7_nightAt_24 (by decide) (by decide), ?_⟩
  refine List.forall_mem_cons.mpr ⟨ok_iload_n F dX7_nightAt_26 rfl (by decide), ?_⟩
  refine List.forall_mem_cons.mpr ⟨ok_iadd F dX7_nightAt_27 (by decide), ?_⟩
  refine List.forall_mem_cons.mpr ⟨ok_iald F dX7_nightAt_28 (by decide), ?_⟩
  refine List.forall_mem_cons.mpr ⟨ok_goto F dX7_nightAt_29 (by decide) (by decide) (by decide), ?_⟩
  refine List.forall_mem_cons.mpr ⟨ok_ldc F (ix := 136) (wsHas_mem (l := [Jvm.Cond.constant RX7 136 (-1000004)]) (by decide +kernel) (by simp)) dX7_nightAt_32 (by decide), ?_⟩
  refine List.forall_mem_cons.mpr ⟨ok_iret F G dX7_nightAt_34 (by decide), ?_⟩
  exact fun _ h => absurd h List.not_mem_nil
set_option maxRecDepth 100000 in
theorem w_X7_nightAt : (∀ (K : Kt QT) (n : Nat) (L : xL) (st : List Value) (S : QT), nx cod_X7_nightAt cut_X7_nightAt K (n + 1) 0 L st S = (O_iload 1 1) (nx cod_X7_nightAt cut_X7_nightAt K n) 0 L st S) ∧
  (∀ (K : Kt QT) (n : Nat) (L : xL) (st : List Value) (S : QT), nx cod_X7_nightAt cut_X7_nightAt K (n + 1) 1 L st S = (O_if_ge 9) (nx cod_X7_nightAt cut_X7_nightAt K n) 1 L st S) ∧
  (∀ (K : Kt QT) (n : Nat) (L : xL) (st : List Value) (S : QT), nx cod_X7_nightAt cut_X7_nightAt K (n + 1) 4 L st S = (O_int (-1000001) 2) (nx cod_X7_nightAt cut_X7_nightAt K n) 4 L st S) ∧
  (∀ (K : Kt QT) (n : Nat) (L : xL) (st : List Value) (S : QT), nx cod_X7_nightAt cut_X7_nightAt K (n + 1) 6 L st S = (O_goto 34) (nx cod_X7_nightAt cut_X7_nightAt K n) 6 L st S) ∧
  (∀ (K : Kt QT) (n : Nat) (L : xL) (st : List Value) (S : QT), nx cod_X7_nightAt cut_X7_nightAt K (n + 1) 9 L st S = (O_iload 1 1) (nx cod_X7_nightAt cut_X7_nightAt K n) 9 L st S) ∧
  (∀ (K : Kt QT) (n : Nat) (L : xL) (st : List Value) (S : QT), nx cod_X7_nightAt cut_X7_nightAt K (n + 1) 10 L st S = (O_aload 0 1) (nx cod_X7_nightAt cut_X7_nightAt K n) 10 L st S) ∧
  (∀ (K : Kt QT) (n : Nat) (L : xL) (st : List Value) (S : QT), nx cod_X7_nightAt cut_X7_nightAt K (n + 1) 11 L st S = (O_getf aW 7 0) (nx cod_X7_nightAt cut_X7_nightAt K n) 11 L st S) ∧
  (∀ (K : Kt QT) (n : Nat) (L : xL) (st : List Value) (S : QT), nx cod_X7_nightAt cut_X7_nightAt K (n + 1) 14 L st S = (O_int 18 2) (nx cod_X7_nightAt cut_X7_nightAt K n) 14 L st S) ∧
  (∀ (K : Kt QT) (n : Nat) (L : xL) (st : List Value) (S : QT), nx cod_X7_nightAt cut_X7_nightAt K (n + 1) 16 L st S = (O_ald aW 0) (nx cod_X7_nightAt cut_X7_nightAt K n) 16 L st S) ∧
  (∀ (K : Kt QT) (n : Nat) (L : xL) (st : List Value) (S : QT), nx cod_X7_nightAt cut_X7_nightAt K (n + 1) 17 L st S = (O_icmp_ge 32) (nx cod_X7_nightAt cut_X7_nightAt K n) 17 L st S) ∧
  (∀ (K : Kt QT) (n : Nat) (L : xL) (st : List Value) (S : QT), nx cod_X7_nightAt cut_X7_nightAt K (n + 1) 20 L st S = (O_aload 0 1) (nx cod_X7_nightAt cut_X7_nightAt K n) 20 L st S) ∧
  (∀ (K : Kt QT) (n : Nat) (L : xL) (st : List Value) (S : QT), nx cod_X7_nightAt cut_X7_nightAt K (n + 1) 21 L st S = (O_getf aW 7 0) (nx cod_X7_nightAt cut_X7_nightAt K n) 21 L st S) ∧
  (∀ (K : Kt QT) (n : Nat) (L : xL) (st : List Value) (S : QT), nx cod_X7_nightAt cut_X7_nightAt K (n + 1) 24 L st S = (O_int 127 2) (nx cod_X7_nightAt cut_X7_nightAt K n) 24 L st S) ∧
  (∀ (K : Kt QT) (n : Nat) (L : xL) (st : List Value) (S : QT), nx cod_X7_nightAt cut_X7_nightAt K (n + 1) 26 L st S = (O_iload 1 1) (nx cod_X7_nightAt cut_X7_nightAt K n) 26 L st S) ∧
  (∀ (K : Kt QT) (n : Nat) (L : xL) (st : List Value) (S : QT), nx cod_X7_nightAt cut_X7_nightAt K (n + 1) 27 L st S = (O_iadd) (nx cod_X7_nightAt cut_X7_nightAt K n) 27 L st S) ∧
  (∀ (K : Kt QT) (n : Nat) (L : xL) (st : List Value) (S : QT), nx cod_X7_nightAt cut_X7_nightAt K (n + 1) 28 L st S = (O_ald aW 0) (nx cod_X7_nightAt cut_X7_nightAt K n) 28 L st S) ∧
  (∀ (K : Kt QT) (n : Nat) (L : xL) (st : List Value) (S : QT), nx cod_X7_nightAt cut_X7_nightAt K (n + 1) 29 L st S = (O_goto 34) (nx cod_X7_nightAt cut_X7_nightAt K n) 29 L st S) ∧
  (∀ (K : Kt QT) (n : Nat) (L : xL) (st : List Value) (S : QT), nx cod_X7_nightAt cut_X7_nightAt K (n + 1) 32 L st S = (O_int (-1000004) 2) (nx cod_X7_nightAt cut_X7_nightAt K n) 32 L st S) ∧
  (∀ (K : Kt QT) (n : Nat) (L : xL) (st : List Value) (S : QT), nx cod_X7_nightAt cut_X7_nightAt K (n + 1) 34 L st S = (O_iret) (nx cod_X7_nightAt cut_X7_nightAt K n) 34 L st S) ∧
  (∀ (K : Kt QT) (n : Nat) (L : xL) (st : List Value) (S : QT), nx cod_X7_nightAt cut_X7_nightAt K (n + 1) 100000 L st S = K 100000 L st S) := by
  repeat' apply And.intro
  all_goals (intros; rfl)
set_option maxRecDepth 100000 in
theorem mk_X7_nightAt {P P' : QT} {r : Option Value} {p0 : Int32} (body : ∀ E : En, CodOk E aW cod_X7_nightAt → Gd E aW 100000 [] r.toList P' → Gd E aW 0 [some (.ref 0), some (.int p0)] [] P) : Con yX7_nightAt cX7_nightAt 2 (some .int) 0 aW [.ref 0, .int p0] P r P' :=
  Con.of (by decide) ((aW_len P').trans (aW_len P).symm) rfl (Nat.le_of_ble_eq_true rfl) (fun E F G hr => body E (okc_X7_nightAt F G) hr)
set_option maxRecDepth 10000 in
theorem con_X7_nightAt (S : ST) (M : MT) (fl : Bool) (i : Int32) (hp : S.inv 1) : Con yX7_nightAt cX7_nightAt 2 (some .int) 0 aW [.ref 0, .int i] (S, M, fl) (some (.int (if i < 0 then -1000001 else if S.N.has i = true then S.N.noted i.toNatClampNeg else -1000004))) ((S, M, fl)) := by
  refine mk_X7_nightAt (fun E C hr => ?_)
  have hN := hp.2.2.1
  clear hp
  by_cases c1 : i < 0
  · rw [if_pos c1] at hr
    (refine nx_ok C (cuts := cut_X7_nightAt) 1000 _ _ _ _ ?_; simp only [w_X7_nightAt, ops_eq, xst_eq, call_eq, oK_eq, Option.toList_some, Option.toList_none, List.cons_append, List.nil_append, List.length_cons, List.length_nil, true_and, and_true, Nat.reduceAdd, aW_F, aW_A, aW_P, aW_w, abs_eq, O_asti_eq, v170, cl_eq, ST_id, MT_gs, ST_gs, PT_gs, ZT_gs, NT_gs, ET_gs, c1])
    ((repeat' (with_reducible first | apply And.intro | intro _)) <;> first | (with_reducible assumption) | (with_reducible exact Nat.zero_le _) | contradiction | (simp only [Option.toList_none, Option.toList_some] at hr; with_reducible assumption) | (simp_all; done) | assumption)
  · rw [if_neg c1] at hr
    by_cases c2 : i < S.N.size
    · have c3 : S.N.has i = true := by simp only [NT.has, decide_eq_true_eq]; exact ⟨c1, c2⟩
      rw [if_pos c3] at hr
      obtain ⟨k, hk, rfl⟩ := isN_in hN c1 c2
      have hk7 : k < 7 := by have := hN.2; omega
      have h1 := at_night hk7
      have h2 := abs_night S hk7
      rw [nI_clamp (by omega)] at hr
      (refine nx_ok C (cuts := cut_X7_nightAt) 1000 _ _ _ _ ?_; simp only [w_X7_nightAt, ops_eq, xst_eq, call_eq, oK_eq, Option.toList_some, Option.toList_none, List.cons_append, List.nil_append, List.length_cons, List.length_nil, true_and, and_true, Nat.reduceAdd, aW_F, aW_A, aW_P, aW_w, abs_eq, O_asti_eq, v170, cl_eq, ST_id, MT_gs, ST_gs, PT_gs, ZT_gs, NT_gs, ET_gs, h1, h2, c1, c2])
      ((repeat' (with_reducible first | apply And.intro | intro _)) <;> first | (with_reducible assumption) | (with_reducible exact Nat.zero_le _) | contradiction | (simp only [Option.toList_none, Option.toList_some] at hr; with_reducible assumption) | (simp_all; done) | assumption)
    · have c3 : ¬ S.N.has i = true := by simp only [NT.has, decide_eq_true_eq]; exact fun z => c2 z.2
      rw [if_neg c3] at hr
      (refine nx_ok C (cuts := cut_X7_nightAt) 1000 _ _ _ _ ?_; simp only [w_X7_nightAt, ops_eq, xst_eq, call_eq, oK_eq, Option.toList_some, Option.toList_none, List.cons_append, List.nil_append, List.length_cons, List.length_nil, true_and, and_true, Nat.reduceAdd, aW_F, aW_A, aW_P, aW_w, abs_eq, O_asti_eq, v170, cl_eq, ST_id, MT_gs, ST_gs, PT_gs, ZT_gs, NT_gs, ET_gs, c1, c2])
      ((repeat' (with_reducible first | apply And.intro | intro _)) <;> first | (with_reducible assumption) | (with_reducible exact Nat.zero_le _) | contradiction | (simp only [Option.toList_none, Option.toList_some] at hr; with_reducible assumption) | (simp_all; done) | assumption)
def spc_X7_nightAt (S : ST) (M : MT) (fl : Bool) (i : Int32) (K : Option Value → QT → Prop) : Prop := (S.inv 1) ∧ K (some (.int (if i < 0 then -1000001 else if S.N.has i = true then S.N.noted i.toNatClampNeg else -1000004))) ((S, M, fl))
def sp_X7_nightAt : Sp QT := fun av q K => match av with
  | [.ref 0, .int i] => spc_X7_nightAt q.1 q.2.1 q.2.2 i K
  | _ => False
theorem se_X7_nightAt (S : ST) (M : MT) (fl : Bool) (i : Int32) (K : Option Value → QT → Prop) : sp_X7_nightAt [.ref 0, .int i] (S, M, fl) K = ((S.inv 1) ∧ K (some (.int (if i < 0 then -1000001 else if S.N.has i = true then S.N.noted i.toNatClampNeg else -1000004))) ((S, M, fl))) := rfl
theorem spok_X7_nightAt : SpOk yX7_nightAt cX7_nightAt 2 (some .int) 0 aW sp_X7_nightAt := by
  intro av q K h
  unfold sp_X7_nightAt at h
  split at h
  · rename_i i; refine ⟨_, _, ?_, con_X7_nightAt q.1 q.2.1 q.2.2 i h.1, h.2⟩; trivial
  · exact h.elim
theorem ET.kept_n {S : ET} (h : S.rm) : ∃ A : Nat, S.all = nI A ∧ A < 2147483000 ∧ S.all.toNatClampNeg = A ∧ S.kept = nI (if A < 12 then A else 12) := by
  obtain ⟨A, e1, e2, e3, e4⟩ := ET.rm_n h
  refine ⟨A, e1, e2, e4, ?_⟩
  unfold ET.kept
  rw [e1, show (12 : Int32) = nI 12 from rfl]
  have h2 := nI_ltI (a := A) (b := 12) (by omega) (by omega)
  by_cases c : A < 12
  · rw [if_pos (h2.mpr c), if_pos c]
  · rw [if_neg (fun z => c (h2.mp z)), if_neg c]
theorem ET.at_ev {S : ET} (h : S.rm) {i : Int32} (h0 : ¬ i < 0) (h1 : i < S.kept) : ∃ k, k < 12 ∧ i = nI k ∧ ¬ S.rowOf i = -1 ∧ S.evr 0 k = S.kinds (S.rowOf i).toNatClampNeg ∧ S.evr 1 k = S.times (S.rowOf i).toNatClampNeg ∧ S.evr 2 k = S.pumps (S.rowOf i).toNatClampNeg := by
  obtain ⟨A, e1, e2, e3, e4⟩ := ET.kept_n h
  have hk := e4
  have hN : isN S.kept (if A < 12 then A else 12) 12 := ⟨e4, by split <;> omega, by omega⟩
  obtain ⟨k, hk1, rfl⟩ := isN_in hN h0 h1
  have hkA : k < A ∧ k < 12 := by
    split at hk1 <;> omega
  have hrow : S.rowOf (nI k) = nI ((A - 1 - k) % 12) := by
    unfold ET.rowOf
    rw [if_pos ⟨h0, h1⟩, e1, show (1 : Int32) = nI 1 from rfl, pk_sub (by omega), pk_sub (by omega), ← rem_eq, show (12 : Int32) = nI 12 from rfl, pk_rem (by omega) (by omega) (by omega)]
  refine ⟨k, hkA.2, rfl, ?_, ?_⟩
  · rw [hrow, show (-1 : Int32) = -1 from rfl]
    intro z
    exact nI_pos (n := (A - 1 - k) % 12) (by omega) (by rw [z]; decide)
  · rw [hrow, nI_clamp (by omega)]
    unfold ET.evr
    rw [e3]
    exact ⟨by rw [if_pos hkA.1]; rfl, by rw [if_pos hkA.1]; rfl, by rw [if_pos hkA.1]; rfl⟩
theorem at_event {k w : Nat} (hk : k < 12) (hw : w < 3) : (134 : Int32) + 3 * nI k + nI w = nI (134 + (3 * k + w)) ∧ vp_in (nI (134 + (3 * k + w))) 170 ∧ (nI (134 + (3 * k + w))).toNatClampNeg = 134 + (3 * k + w) := by
  refine ⟨?_, vp_in_nI (by omega) (by omega), nI_clamp (by omega)⟩
  rw [show (134 : Int32) = nI 134 from rfl, show (3 : Int32) = nI 3 from rfl, pk_mul, nI_add, nI_add]
  congr 1
  omega
theorem abs_event2 (S : ST) {k w : Nat} (hk : k < 12) (hw : w < 3) : abs S (134 + (3 * k + w)) = S.E.evr w k := by
  rw [abs_ev S _ (by omega), show (3 * k + w) % 3 = w by omega, show (3 * k + w) / 3 = k by omega]
def cod_X7_eventAt : List (Nat × Op QT) := [(0, O_iload 1 1), (1, O_if_lt 16), (4, O_iload 2 1), (5, O_i2l), (6, O_long 0 1), (7, O_long 2 3), (10, O_callS 3 sp_X7_in), (13, O_if_ne 19), (16, O_int (-1000001) 2), (18, O_iret), (19, O_iload 1 1), (20, O_aload 0 1), (21, O_getf aW 7 0), (24, O_int 19 2), (26, O_ald aW 0), (27, O_icmp_lt 33), (30, O_int (-1000004) 2), (32, O_iret), (33, O_aload 0 1), (34, O_getf aW 7 0), (37, O_int 134 3), (40, O_int 3 1), (41, O_iload 1 1), (42, O_imul), (43, O_iadd), (44, O_iload 2 1), (45, O_iadd), (46, O_ald aW 0), (47, O_istore 3 1), (48, O_iload 2 1), (49, O_int 2 1), (50, O_icmp_ne 63), (53, O_iload 3 1), (54, O_int (-1) 1), (55, O_icmp_ne 63), (58, O_int (-1000004) 2), (60, O_goto 64), (63, O_iload 3 1), (64, O_iret)]
abbrev cut_X7_eventAt : List Nat := []
set_option maxRecDepth 100000 in
theorem okc_X7_eventAt {E : En} (F : Fx E RX7 cX7_eventAt 4 1) (G : Fr E (some .int)) : CodOk E aW cod_X7_eventAt := by
  unfold CodOk cod_X7_eventAt
  refine List.forall_mem_cons.mpr ⟨ok_iload_n F dX7_eventAt_0 rfl (by decide), ?_⟩
  refine List.forall_mem_cons.mpr ⟨ok_if_lt F dX7_eventAt_1 (by decide) (by decide) (by decide), ?_⟩
  refine List.forall_mem_cons.mpr ⟨ok_iload_n F dX7_eventAt_4 rfl (by decide), ?_⟩
  refine List.forall_mem_cons.mpr ⟨ok_i2l F dX7_eventAt_5 (by decide), ?_⟩
  refine List.forall_mem_cons.mpr ⟨ok_lconst F dX7_eventAt_6 (by decide) (by decide), ?_⟩
  refine List.forall_mem_cons.mpr ⟨ok_ldc2 F (ix := 69) (wsHas_mem (l := [Jvm.Cond.constantLong RX7 69 2]) (by decide +kernel) (by simp)) dX7_eventAt_7 (by decide), ?_⟩
  refine List.forall_mem_cons.mpr ⟨ok_callS F spok_X7_in (by decide +kernel) rfl (by decide) dX7_eventAt_10 (by decide), ?_⟩
  refine List.forall_mem_cons.mpr ⟨ok_if_ne F dX7_eventAt_13 (by decide) (by decide) (by decide), ?_⟩
  refine List.forall_mem_cons.mpr ⟨ok_ldc F (ix := 62) (wsHas_mem (l := [Jvm.Cond.constant RX7 62 (-1000001)]) (by decide +kernel) (by simp)) dX7_eventAt_16 (by decide), ?_⟩
  refine List.forall_mem_cons.mpr ⟨ok_iret F G dX7_eventAt_18 (by decide), ?_⟩
  refine List.forall_mem_cons.mpr ⟨ok_iload_n F dX7_eventAt_19 rfl (by decide), ?_⟩
  refine List.forall_mem_cons.mpr ⟨ok_aload_n F dX7_eventAt_20 rfl (by decide), ?_⟩
  refine List.forall_mem_cons.mpr ⟨ok_getf F flX7_7 dX7_eventAt_21 (by decide), ?_⟩
  refine List.forall_mem_cons.mpr ⟨ok_bipush F dX7_eventAt_24 (by decide) (by decide), ?_⟩
  refine List.forall_mem_cons.mpr ⟨ok_iald F dX7_eventAt_26 (by decide), ?_⟩
  refine List.forall_mem_cons.mpr ⟨ok_icmp_lt F dX7_eventAt_27 (by decide) (by decide) (by decide), ?_⟩
  refine List.forall_mem_cons.mpr ⟨ok_ldc F (ix := 136) (wsHas_mem (l := [Jvm.Cond.constant RX7 136 (-1000004)]) (by decide +kernel) (by simp)) dX7_eventAt_30 (by decide), ?_⟩
  refine List.forall_mem_cons.mpr ⟨ok_iret F G dX7_eventAt_32 (by decide), ?_⟩
  refine List.forall_mem_cons.mpr ⟨ok_aload_n F dX7_eventAt_33 rfl (by decide), ?_⟩
  refine List.forall_mem_cons.mpr ⟨ok_getf F flX7_7 dX7_eventAt_34 (by decide), ?_⟩
  refine List.forall_mem_cons.mpr ⟨ok_sipush F dX7_eventAt_37 (by decide) (by decide), ?_⟩
  refine List.forall_mem_cons.mpr ⟨ok_iconst F dX7_eventAt_40 (by decide) (by decide), ?_⟩
  refine List.forall_mem_cons.mpr ⟨ok_iload_n F dX7_eventAt_41 rfl (by decide), ?_⟩
  refine List.forall_mem_cons.mpr ⟨ok_imul F dX7_eventAt_42 (by decide), ?_⟩
  refine List.forall_mem_cons.mpr ⟨ok_iadd F dX7_eventAt_43 (by decide), ?_⟩
  refine List.forall_mem_cons.mpr ⟨ok_iload_n F dX7_eventAt_44 rfl (by decide), ?_⟩
  refine List.forall_mem_cons.mpr ⟨ok_iadd F dX7_eventAt_45 (by decide), ?_⟩
  refine List.forall_mem_cons.mpr ⟨ok_iald F dX7_eventAt_46 (by decide), ?_⟩
  refine List.forall_mem_cons.mpr ⟨ok_istore_n F dX7_eventAt_47 rfl (by decide) (by decide), ?_⟩
  refine List.forall_mem_cons.mpr ⟨ok_iload_n F dX7_eventAt_48 rfl (by decide), ?_⟩
  refine List.forall_mem_cons.mpr ⟨ok_iconst F dX7_eventAt_49 (by decide) (by decide), ?_⟩
  refine List.forall_mem_cons.mpr ⟨ok_icmp_ne F dX7_eventAt_50 (by decide) (by decide) (by decide), ?_⟩
  refine List.forall_mem_cons.mpr ⟨ok_iload_n F dX7_eventAt_53 rfl (by decide), ?_⟩
  refine List.forall_mem_cons.mpr ⟨ok_iconst F dX7_eventAt_54 (by decide) (by decide), ?_⟩
  refine List.forall_mem_cons.mpr ⟨ok_icmp_ne F dX7_eventAt_55 (by decide) (by decide) (by decide), ?_⟩
  refine List.forall_mem_cons.mpr ⟨ok_ldc F (ix := 136) (wsHas_mem (l := [Jvm.Cond.constant RX7 136 (-1000004)]) (by decide +kernel) (by simp)) dX7_eventAt_58 (by decide), ?_⟩
  refine List.forall_mem_cons.mpr ⟨ok_goto F dX7_eventAt_60 (by decide) (by decide) (by decide), ?_⟩
  refine List.forall_mem_cons.mpr ⟨ok_iload_n F dX7_eventAt_63 rfl (by decide), ?_⟩
  refine List.forall_mem_cons.mpr ⟨ok_iret F G dX7_eventAt_64 (by decide), ?_⟩
  exact fun _ h => absurd h List.not_mem_nil
set_option maxRecDepth 100000 in
theorem w_X7_eventAt : (∀ (K : Kt QT) (n : Nat) (L : xL) (st : List Value) (S : QT), nx cod_X7_eventAt cut_X7_eventAt K (n + 1) 0 L st S = (O_iload 1 1) (nx cod_X7_eventAt cut_X7_eventAt K n) 0 L st S) ∧
  (∀ (K : Kt QT) (n : Nat) (L : xL) (st : List Value) (S : QT), nx cod_X7_eventAt cut_X7_eventAt K (n + 1) 1 L st S = (O_if_lt 16) (nx cod_X7_eventAt cut_X7_eventAt K n) 1 L st S) ∧
  (∀ (K : Kt QT) (n : Nat) (L : xL) (st : List Value) (S : QT), nx cod_X7_eventAt cut_X7_eventAt K (n + 1) 4 L st S = (O_iload 2 1) (nx cod_X7_eventAt cut_X7_eventAt K n) 4 L st S) ∧
  (∀ (K : Kt QT) (n : Nat) (L : xL) (st : List Value) (S : QT), nx cod_X7_eventAt cut_X7_eventAt K (n + 1) 5 L st S = (O_i2l) (nx cod_X7_eventAt cut_X7_eventAt K n) 5 L st S) ∧
  (∀ (K : Kt QT) (n : Nat) (L : xL) (st : List Value) (S : QT), nx cod_X7_eventAt cut_X7_eventAt K (n + 1) 6 L st S = (O_long 0 1) (nx cod_X7_eventAt cut_X7_eventAt K n) 6 L st S) ∧
  (∀ (K : Kt QT) (n : Nat) (L : xL) (st : List Value) (S : QT), nx cod_X7_eventAt cut_X7_eventAt K (n + 1) 7 L st S = (O_long 2 3) (nx cod_X7_eventAt cut_X7_eventAt K n) 7 L st S) ∧
  (∀ (K : Kt QT) (n : Nat) (L : xL) (st : List Value) (S : QT), nx cod_X7_eventAt cut_X7_eventAt K (n + 1) 10 L st S = (O_callS 3 sp_X7_in) (nx cod_X7_eventAt cut_X7_eventAt K n) 10 L st S) ∧
  (∀ (K : Kt QT) (n : Nat) (L : xL) (st : List Value) (S : QT), nx cod_X7_eventAt cut_X7_eventAt K (n + 1) 13 L st S = (O_if_ne 19) (nx cod_X7_eventAt cut_X7_eventAt K n) 13 L st S) ∧
  (∀ (K : Kt QT) (n : Nat) (L : xL) (st : List Value) (S : QT), nx cod_X7_eventAt cut_X7_eventAt K (n + 1) 16 L st S = (O_int (-1000001) 2) (nx cod_X7_eventAt cut_X7_eventAt K n) 16 L st S) ∧
  (∀ (K : Kt QT) (n : Nat) (L : xL) (st : List Value) (S : QT), nx cod_X7_eventAt cut_X7_eventAt K (n + 1) 18 L st S = (O_iret) (nx cod_X7_eventAt cut_X7_eventAt K n) 18 L st S) ∧
  (∀ (K : Kt QT) (n : Nat) (L : xL) (st : List Value) (S : QT), nx cod_X7_eventAt cut_X7_eventAt K (n + 1) 19 L st S = (O_iload 1 1) (nx cod_X7_eventAt cut_X7_eventAt K n) 19 L st S) ∧
  (∀ (K : Kt QT) (n : Nat) (L : xL) (st : List Value) (S : QT), nx cod_X7_eventAt cut_X7_eventAt K (n + 1) 20 L st S = (O_aload 0 1) (nx cod_X7_eventAt cut_X7_eventAt K n) 20 L st S) ∧
  (∀ (K : Kt QT) (n : Nat) (L : xL) (st : List Value) (S : QT), nx cod_X7_eventAt cut_X7_eventAt K (n + 1) 21 L st S = (O_getf aW 7 0) (nx cod_X7_eventAt cut_X7_eventAt K n) 21 L st S) ∧
  (∀ (K : Kt QT) (n : Nat) (L : xL) (st : List Value) (S : QT), nx cod_X7_eventAt cut_X7_eventAt K (n + 1) 24 L st S = (O_int 19 2) (nx cod_X7_eventAt cut_X7_eventAt K n) 24 L st S) ∧
  (∀ (K : Kt QT) (n : Nat) (L : xL) (st : List Value) (S : QT), nx cod_X7_eventAt cut_X7_eventAt K (n + 1) 26 L st S = (O_ald aW 0) (nx cod_X7_eventAt cut_X7_eventAt K n) 26 L st S) ∧
  (∀ (K : Kt QT) (n : Nat) (L : xL) (st : List Value) (S : QT), nx cod_X7_eventAt cut_X7_eventAt K (n + 1) 27 L st S = (O_icmp_lt 33) (nx cod_X7_eventAt cut_X7_eventAt K n) 27 L st S) ∧
  (∀ (K : Kt QT) (n : Nat) (L : xL) (st : List Value) (S : QT), nx cod_X7_eventAt cut_X7_eventAt K (n + 1) 30 L st S = (O_int (-1000004) 2) (nx cod_X7_eventAt cut_X7_eventAt K n) 30 L st S) ∧
  (∀ (K : Kt QT) (n : Nat) (L : xL) (st : List Value) (S : QT), nx cod_X7_eventAt cut_X7_eventAt K (n + 1) 32 L st S = (O_iret) (nx cod_X7_eventAt cut_X7_eventAt K n) 32 L st S) ∧
  (∀ (K : Kt QT) (n : Nat) (L : xL) (st : List Value) (S : QT), nx cod_X7_eventAt cut_X7_eventAt K (n + 1) 33 L st S = (O_aload 0 1) (nx cod_X7_eventAt cut_X7_eventAt K n) 33 L st S) ∧
  (∀ (K : Kt QT) (n : Nat) (L : xL) (st : List Value) (S : QT), nx cod_X7_eventAt cut_X7_eventAt K (n + 1) 34 L st S = (O_getf aW 7 0) (nx cod_X7_eventAt cut_X7_eventAt K n) 34 L st S) ∧
  (∀ (K : Kt QT) (n : Nat) (L : xL) (st : List Value) (S : QT), nx cod_X7_eventAt cut_X7_eventAt K (n + 1) 37 L st S = (O_int 134 3) (nx cod_X7_eventAt cut_X7_eventAt K n) 37 L st S) ∧
  (∀ (K : Kt QT) (n : Nat) (L : xL) (st : List Value) (S : QT), nx cod_X7_eventAt cut_X7_eventAt K (n + 1) 40 L st S = (O_int 3 1) (nx cod_X7_eventAt cut_X7_eventAt K n) 40 L st S) ∧
  (∀ (K : Kt QT) (n : Nat) (L : xL) (st : List Value) (S : QT), nx cod_X7_eventAt cut_X7_eventAt K (n + 1) 41 L st S = (O_iload 1 1) (nx cod_X7_eventAt cut_X7_eventAt K n) 41 L st S) ∧
  (∀ (K : Kt QT) (n : Nat) (L : xL) (st : List Value) (S : QT), nx cod_X7_eventAt cut_X7_eventAt K (n + 1) 42 L st S = (O_imul) (nx cod_X7_eventAt cut_X7_eventAt K n) 42 L st S) ∧
  (∀ (K : Kt QT) (n : Nat) (L : xL) (st : List Value) (S : QT), nx cod_X7_eventAt cut_X7_eventAt K (n + 1) 43 L st S = (O_iadd) (nx cod_X7_eventAt cut_X7_eventAt K n) 43 L st S) ∧
  (∀ (K : Kt QT) (n : Nat) (L : xL) (st : List Value) (S : QT), nx cod_X7_eventAt cut_X7_eventAt K (n + 1) 44 L st S = (O_iload 2 1) (nx cod_X7_eventAt cut_X7_eventAt K n) 44 L st S) ∧
  (∀ (K : Kt QT) (n : Nat) (L : xL) (st : List Value) (S : QT), nx cod_X7_eventAt cut_X7_eventAt K (n + 1) 45 L st S = (O_iadd) (nx cod_X7_eventAt cut_X7_eventAt K n) 45 L st S) ∧
  (∀ (K : Kt QT) (n : Nat) (L : xL) (st : List Value) (S : QT), nx cod_X7_eventAt cut_X7_eventAt K (n + 1) 46 L st S = (O_ald aW 0) (nx cod_X7_eventAt cut_X7_eventAt K n) 46 L st S) ∧
  (∀ (K : Kt QT) (n : Nat) (L : xL) (st : List Value) (S : QT), nx cod_X7_eventAt cut_X7_eventAt K (n + 1) 47 L st S = (O_istore 3 1) (nx cod_X7_eventAt cut_X7_eventAt K n) 47 L st S) ∧
  (∀ (K : Kt QT) (n : Nat) (L : xL) (st : List Value) (S : QT), nx cod_X7_eventAt cut_X7_eventAt K (n + 1) 48 L st S = (O_iload 2 1) (nx cod_X7_eventAt cut_X7_eventAt K n) 48 L st S) ∧
  (∀ (K : Kt QT) (n : Nat) (L : xL) (st : List Value) (S : QT), nx cod_X7_eventAt cut_X7_eventAt K (n + 1) 49 L st S = (O_int 2 1) (nx cod_X7_eventAt cut_X7_eventAt K n) 49 L st S) ∧
  (∀ (K : Kt QT) (n : Nat) (L : xL) (st : List Value) (S : QT), nx cod_X7_eventAt cut_X7_eventAt K (n + 1) 50 L st S = (O_icmp_ne 63) (nx cod_X7_eventAt cut_X7_eventAt K n) 50 L st S) ∧
  (∀ (K : Kt QT) (n : Nat) (L : xL) (st : List Value) (S : QT), nx cod_X7_eventAt cut_X7_eventAt K (n + 1) 53 L st S = (O_iload 3 1) (nx cod_X7_eventAt cut_X7_eventAt K n) 53 L st S) ∧
  (∀ (K : Kt QT) (n : Nat) (L : xL) (st : List Value) (S : QT), nx cod_X7_eventAt cut_X7_eventAt K (n + 1) 54 L st S = (O_int (-1) 1) (nx cod_X7_eventAt cut_X7_eventAt K n) 54 L st S) ∧
  (∀ (K : Kt QT) (n : Nat) (L : xL) (st : List Value) (S : QT), nx cod_X7_eventAt cut_X7_eventAt K (n + 1) 55 L st S = (O_icmp_ne 63) (nx cod_X7_eventAt cut_X7_eventAt K n) 55 L st S) ∧
  (∀ (K : Kt QT) (n : Nat) (L : xL) (st : List Value) (S : QT), nx cod_X7_eventAt cut_X7_eventAt K (n + 1) 58 L st S = (O_int (-1000004) 2) (nx cod_X7_eventAt cut_X7_eventAt K n) 58 L st S) ∧
  (∀ (K : Kt QT) (n : Nat) (L : xL) (st : List Value) (S : QT), nx cod_X7_eventAt cut_X7_eventAt K (n + 1) 60 L st S = (O_goto 64) (nx cod_X7_eventAt cut_X7_eventAt K n) 60 L st S) ∧
  (∀ (K : Kt QT) (n : Nat) (L : xL) (st : List Value) (S : QT), nx cod_X7_eventAt cut_X7_eventAt K (n + 1) 63 L st S = (O_iload 3 1) (nx cod_X7_eventAt cut_X7_eventAt K n) 63 L st S) ∧
  (∀ (K : Kt QT) (n : Nat) (L : xL) (st : List Value) (S : QT), nx cod_X7_eventAt cut_X7_eventAt K (n + 1) 64 L st S = (O_iret) (nx cod_X7_eventAt cut_X7_eventAt K n) 64 L st S) ∧
  (∀ (K : Kt QT) (n : Nat) (L : xL) (st : List Value) (S : QT), nx cod_X7_eventAt cut_X7_eventAt K (n + 1) 100000 L st S = K 100000 L st S) := by
  repeat' apply And.intro
  all_goals (intros; rfl)
set_option maxRecDepth 100000 in
theorem mk_X7_eventAt {P P' : QT} {r : Option Value} {p0 : Int32} {p1 : Int32} (body : ∀ E : En, CodOk E aW cod_X7_eventAt → Gd E aW 100000 [] r.toList P' → Gd E aW 0 [some (.ref 0), some (.int p0), some (.int p1), none] [] P) : Con yX7_eventAt cX7_eventAt 4 (some .int) 1 aW [.ref 0, .int p0, .int p1] P r P' :=
  Con.of (by decide) ((aW_len P').trans (aW_len P).symm) rfl (Nat.le_of_ble_eq_true rfl) (fun E F G hr => body E (okc_X7_eventAt F G) hr)
set_option maxRecDepth 10000 in
theorem con_X7_eventAt (S : ST) (M : MT) (fl : Bool) (i : Int32) (w : Int32) (hp : S.inv 1) : Con yX7_eventAt cX7_eventAt 4 (some .int) 1 aW [.ref 0, .int i, .int w] (S, M, fl) (some (.int (if FT.okEv i w = false then -1000001 else if S.E.rowOf i = -1 then -1000004 else S.E.of (S.E.rowOf i).toNatClampNeg w))) ((S, M, fl)) := by
  refine mk_X7_eventAt (fun E C hr => ?_)
  have hE := ST.inv_rm (n := 0) hp
  clear hp
  by_cases c1 : i < 0
  · have e : FT.okEv i w = false := by unfold FT.okEv; simp [c1]
    rw [if_pos e] at hr
    (refine nx_ok C (cuts := cut_X7_eventAt) 1000 _ _ _ _ ?_; simp only [w_X7_eventAt, ops_eq, xst_eq, call_eq, oK_eq, Option.toList_some, Option.toList_none, List.cons_append, List.nil_append, List.length_cons, List.length_nil, true_and, and_true, Nat.reduceAdd, aW_F, aW_A, aW_P, aW_w, abs_eq, O_asti_eq, v170, cl_eq, ST_id, MT_gs, ST_gs, PT_gs, ZT_gs, NT_gs, ET_gs, se_X7_in, c1])
    ((repeat' (with_reducible first | apply And.intro | intro _)) <;> first | (with_reducible assumption) | (with_reducible exact Nat.zero_le _) | contradiction | (simp only [Option.toList_none, Option.toList_some] at hr; with_reducible assumption) | (simp_all; done) | assumption)
  · by_cases c2 : inR w 0 2 = true
    · have e : ¬ FT.okEv i w = false := by unfold FT.okEv; rw [c2]; simp [c1]
      rw [if_neg e] at hr
      clear e
      by_cases c3 : i < S.E.kept
      · obtain ⟨k, hk, rfl, g0, g1, g2, g3⟩ := ET.at_ev hE c1 c3
        rw [if_neg g0] at hr
        unfold ET.of at hr
        rw [← g1, ← g2, ← g3] at hr
        clear g0 g1 g2 g3 hE
        rcases wlit2 c2 with rfl | rfl | rfl
        · have hr : Gd E aW 100000 [] [.int (S.E.evr 0 k)] (S, M, fl) := hr
          have h0 : (134 : Int32) + 3 * nI k + 0 = nI (134 + (3 * k + 0)) := (at_event (w := 0) hk (by omega)).1
          have h1 := (at_event (w := 0) hk (by omega)).2
          have h2 := abs_event2 S (w := 0) hk (by omega)
          (refine nx_ok C (cuts := cut_X7_eventAt) 1000 _ _ _ _ ?_; simp only [w_X7_eventAt, ops_eq, xst_eq, call_eq, oK_eq, Option.toList_some, Option.toList_none, List.cons_append, List.nil_append, List.length_cons, List.length_nil, true_and, and_true, Nat.reduceAdd, aW_F, aW_A, aW_P, aW_w, abs_eq, O_asti_eq, v170, cl_eq, ST_id, MT_gs, ST_gs, PT_gs, ZT_gs, NT_gs, ET_gs, se_X7_in, bI_eq, inL_lit, c1, c2, c3, h0, h1, h2])
          ((repeat' (with_reducible first | apply And.intro | intro _)) <;> first | (with_reducible assumption) | (with_reducible exact Nat.zero_le _) | contradiction | (simp only [Option.toList_none, Option.toList_some] at hr; with_reducible assumption) | (simp_all; done) | assumption)
        · have hr : Gd E aW 100000 [] [.int (S.E.evr 1 k)] (S, M, fl) := hr
          have h0 : (134 : Int32) + 3 * nI k + 1 = nI (134 + (3 * k + 1)) := (at_event (w := 1) hk (by omega)).1
          have h1 := (at_event (w := 1) hk (by omega)).2
          have h2 := abs_event2 S (w := 1) hk (by omega)
          (refine nx_ok C (cuts := cut_X7_eventAt) 1000 _ _ _ _ ?_; simp only [w_X7_eventAt, ops_eq, xst_eq, call_eq, oK_eq, Option.toList_some, Option.toList_none, List.cons_append, List.nil_append, List.length_cons, List.length_nil, true_and, and_true, Nat.reduceAdd, aW_F, aW_A, aW_P, aW_w, abs_eq, O_asti_eq, v170, cl_eq, ST_id, MT_gs, ST_gs, PT_gs, ZT_gs, NT_gs, ET_gs, se_X7_in, bI_eq, inL_lit, c1, c2, c3, h0, h1, h2])
          ((repeat' (with_reducible first | apply And.intro | intro _)) <;> first | (with_reducible assumption) | (with_reducible exact Nat.zero_le _) | contradiction | (simp only [Option.toList_none, Option.toList_some] at hr; with_reducible assumption) | (simp_all; done) | assumption)
        · have hr : Gd E aW 100000 [] [.int (if S.E.evr 2 k = -1 then -1000004 else S.E.evr 2 k)] (S, M, fl) := hr
          have h0 : (134 : Int32) + 3 * nI k + 2 = nI (134 + (3 * k + 2)) := (at_event (w := 2) hk (by omega)).1
          have h1 := (at_event (w := 2) hk (by omega)).2
          have h2 := abs_event2 S (w := 2) hk (by omega)
          by_cases d : S.E.evr 2 k = -1
          · rw [if_pos d] at hr
            (refine nx_ok C (cuts := cut_X7_eventAt) 1000 _ _ _ _ ?_; simp only [w_X7_eventAt, ops_eq, xst_eq, call_eq, oK_eq, Option.toList_some, Option.toList_none, List.cons_append, List.nil_append, List.length_cons, List.length_nil, true_and, and_true, Nat.reduceAdd, aW_F, aW_A, aW_P, aW_w, abs_eq, O_asti_eq, v170, cl_eq, ST_id, MT_gs, ST_gs, PT_gs, ZT_gs, NT_gs, ET_gs, se_X7_in, bI_eq, inL_lit, c1, c2, c3, h0, h1, h2, d])
            ((repeat' (with_reducible first | apply And.intro | intro _)) <;> first | (with_reducible assumption) | (with_reducible exact Nat.zero_le _) | contradiction | (simp only [Option.toList_none, Option.toList_some] at hr; with_reducible assumption) | (simp_all; done) | assumption)
          · rw [if_neg d] at hr
            (refine nx_ok C (cuts := cut_X7_eventAt) 1000 _ _ _ _ ?_; simp only [w_X7_eventAt, ops_eq, xst_eq, call_eq, oK_eq, Option.toList_some, Option.toList_none, List.cons_append, List.nil_append, List.length_cons, List.length_nil, true_and, and_true, Nat.reduceAdd, aW_F, aW_A, aW_P, aW_w, abs_eq, O_asti_eq, v170, cl_eq, ST_id, MT_gs, ST_gs, PT_gs, ZT_gs, NT_gs, ET_gs, se_X7_in, bI_eq, inL_lit, c1, c2, c3, h0, h1, h2, d])
            ((repeat' (with_reducible first | apply And.intro | intro _)) <;> first | (with_reducible assumption) | (with_reducible exact Nat.zero_le _) | contradiction | (simp only [Option.toList_none, Option.toList_some] at hr; with_reducible assumption) | (simp_all; done) | assumption)
      · have e : S.E.rowOf i = -1 := by unfold ET.rowOf; rw [if_neg (fun z => c3 z.2)]
        rw [if_pos e] at hr
        (refine nx_ok C (cuts := cut_X7_eventAt) 1000 _ _ _ _ ?_; simp only [w_X7_eventAt, ops_eq, xst_eq, call_eq, oK_eq, Option.toList_some, Option.toList_none, List.cons_append, List.nil_append, List.length_cons, List.length_nil, true_and, and_true, Nat.reduceAdd, aW_F, aW_A, aW_P, aW_w, abs_eq, O_asti_eq, v170, cl_eq, ST_id, MT_gs, ST_gs, PT_gs, ZT_gs, NT_gs, ET_gs, se_X7_in, bI_eq, inL_lit, c1, c2, c3])
        ((repeat' (with_reducible first | apply And.intro | intro _)) <;> first | (with_reducible assumption) | (with_reducible exact Nat.zero_le _) | contradiction | (simp only [Option.toList_none, Option.toList_some] at hr; with_reducible assumption) | (simp_all; done) | assumption)
    · have c2 := bnot c2
      have e : FT.okEv i w = false := by unfold FT.okEv; rw [c2]; simp
      rw [if_pos e] at hr
      (refine nx_ok C (cuts := cut_X7_eventAt) 1000 _ _ _ _ ?_; simp only [w_X7_eventAt, ops_eq, xst_eq, call_eq, oK_eq, Option.toList_some, Option.toList_none, List.cons_append, List.nil_append, List.length_cons, List.length_nil, true_and, and_true, Nat.reduceAdd, aW_F, aW_A, aW_P, aW_w, abs_eq, O_asti_eq, v170, cl_eq, ST_id, MT_gs, ST_gs, PT_gs, ZT_gs, NT_gs, ET_gs, se_X7_in, bI_eq, inL_lit, c1, c2])
      ((repeat' (with_reducible first | apply And.intro | intro _)) <;> first | (with_reducible assumption) | (with_reducible exact Nat.zero_le _) | contradiction | (simp only [Option.toList_none, Option.toList_some] at hr; with_reducible assumption) | (simp_all; done) | assumption)
def spc_X7_eventAt (S : ST) (M : MT) (fl : Bool) (i : Int32) (w : Int32) (K : Option Value → QT → Prop) : Prop := (S.inv 1) ∧ K (some (.int (if FT.okEv i w = false then -1000001 else if S.E.rowOf i = -1 then -1000004 else S.E.of (S.E.rowOf i).toNatClampNeg w))) ((S, M, fl))
def sp_X7_eventAt : Sp QT := fun av q K => match av with
  | [.ref 0, .int i, .int w] => spc_X7_eventAt q.1 q.2.1 q.2.2 i w K
  | _ => False
theorem se_X7_eventAt (S : ST) (M : MT) (fl : Bool) (i : Int32) (w : Int32) (K : Option Value → QT → Prop) : sp_X7_eventAt [.ref 0, .int i, .int w] (S, M, fl) K = ((S.inv 1) ∧ K (some (.int (if FT.okEv i w = false then -1000001 else if S.E.rowOf i = -1 then -1000004 else S.E.of (S.E.rowOf i).toNatClampNeg w))) ((S, M, fl))) := rfl
theorem spok_X7_eventAt : SpOk yX7_eventAt cX7_eventAt 4 (some .int) 1 aW sp_X7_eventAt := by
  intro av q K h
  unfold sp_X7_eventAt at h
  split at h
  · rename_i i w; refine ⟨_, _, ?_, con_X7_eventAt q.1 q.2.1 q.2.2 i w h.1, h.2⟩; trivial
  · exact h.elim
