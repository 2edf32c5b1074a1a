/-! ===== the reference's constructor ===== -/
def setAd (E : En) (ad : Nat → Nat) : En := match E with
  | (p, l, e, R, s, m, args, below, meth, c, Qc, Q, cs, A, nL, D, ad0) => (p, l, e, R, s, m, args, below, meth, c, Qc, Q, cs, A, nL, D, ad)
def ad0Of (E : En) : Nat → Nat := match E with
  | (p, l, e, R, s, m, args, below, meth, c, Qc, Q, cs, A, nL, D, ad0) => ad0
theorem Fx_ad {E : En} {own : String} {cc : ByteArray} {maxL d : Nat} (F : Fx E own cc maxL d) (ad : Nat → Nat) : Fx (setAd E ad) own cc maxL d := by
  obtain ⟨p, l, e, R, s, m, args, below, meth, c, Qc, Q, cs, A, nL, D, ad0⟩ := E
  exact F
theorem Fr_ad {E : En} {ret : Option FieldType} (G : Fr E ret) (ad : Nat → Nat) : Fr (setAd E ad) ret := by
  obtain ⟨p, l, e, R, s, m, args, below, meth, c, Qc, Q, cs, A, nL, D, ad0⟩ := E
  exact G
/-- behind the last new cell: the world stands, the walk goes on as any other -/
theorem gi_gd {E : En} {n : Nat × Nat} {pc : Nat} {L : xL} {st : List Value} {σ : Type} {toW : σ → xW} {S : σ} (hcs : csIs E n) (hpc : pc < 100000) (h : ∀ ad : Nat → Nat, ad 0 = ad0Of E 0 → Gd (setAd E ad) toW pc L st S) : Gi E n pc L st (toW S) := by
  obtain ⟨p, l, e, R, s, m, args, below, meth, c, Qc, Q, cs, A, nL, D, ad0⟩ := E
  have hcs : cs = n := hcs
  subst hcs
  intro ad H locs h0 hP hap hS hL hn ls hl
  exact (h ad h0 H locs hP hap hS).2 (by omega) hL hn ls hl
theorem gd_end {E : En} {σ : Type} {toW : σ → xW} {S : σ} (H : GiEnd E (toW S)) {ad : Nat → Nat} (h0 : ad 0 = ad0Of E 0) : Gd (setAd E ad) toW 100000 [] [] S := by
  obtain ⟨p, l, e, R, s, m, args, below, meth, c, Qc, Q, cs, A, nL, D, ad0⟩ := E
  intro Hh locs hP hap hS
  exact ⟨fun _ t ht hW => H ad Hh locs h0 hP hap hS t ht hW, fun q => absurd rfl q⟩
def cod_X7_init : List (Nat × Op MT) := [(39, O_aload 0 1), (40, O_getf mW 7 0), (43, O_int 2 1), (44, O_int 10000 3), (47, O_ast mW 0 mW_sa), (48, O_aload 0 1), (49, O_getf mW 7 0), (52, O_int 4 1), (53, O_int (-1) 1), (54, O_ast mW 0 mW_sa), (55, O_int 0 1), (56, O_istore 1 1), (57, O_iload 1 1), (58, O_int 19 2), (60, O_icmp_ge 82), (63, O_aload 0 1), (64, O_getf mW 7 0), (67, O_int 20 2), (69, O_iload 1 1), (70, O_iadd), (71, O_iload 1 1), (72, O_callS 1 sp_X7_firstOf), (75, O_ast mW 0 mW_sa), (76, O_iinc 1 1), (79, O_goto 57), (82, O_vret)]
abbrev cut_X7_init : List Nat := [57]
set_option maxRecDepth 100000 in
theorem okc_X7_init {E : En} (F : Fx E RX7 cX7_init 2 1) (G : Fr E none) : CodOk E mW cod_X7_init := by
  unfold CodOk cod_X7_init
  refine List.forall_mem_cons.mpr ⟨ok_aload_n F dX7_init_39 rfl (by decide), ?_⟩
  refine List.forall_mem_cons.mpr ⟨ok_getf F flX7_7 dX7_init_40 (by decide), ?_⟩
  refine List.forall_mem_cons.mpr ⟨ok_iconst F dX7_init_43 (by decide) (by decide), ?_⟩
  refine List.forall_mem_cons.mpr ⟨ok_sipush F dX7_init_44 (by decide) (by decide), ?_⟩
  refine List.forall_mem_cons.mpr ⟨ok_iast F mW_sar dX7_init_47 (by decide), ?_⟩
  refine List.forall_mem_cons.mpr ⟨ok_aload_n F dX7_init_48 rfl (by decide), ?_⟩
  refine List.forall_mem_cons.mpr ⟨ok_getf F flX7_7 dX7_init_49 (by decide), ?_⟩
  refine List.forall_mem_cons.mpr ⟨ok_iconst F dX7_init_52 (by decide) (by decide), ?_⟩
  refine List.forall_mem_cons.mpr ⟨ok_iconst F dX7_init_53 (by decide) (by decide), ?_⟩
  refine List.forall_mem_cons.mpr ⟨ok_iast F mW_sar dX7_init_54 (by decide), ?_⟩
  refine List.forall_mem_cons.mpr ⟨ok_iconst F dX7_init_55 (by decide) (by decide), ?_⟩
  refine List.forall_mem_cons.mpr ⟨ok_istore_n F dX7_init_56 rfl (by decide) (by decide), ?_⟩
  refine List.forall_mem_cons.mpr ⟨ok_iload_n F dX7_init_57 rfl (by decide), ?_⟩
  refine List.forall_mem_cons.mpr ⟨ok_bipush F dX7_init_58 (by decide) (by decide), ?_⟩
  refine List.forall_mem_cons.mpr ⟨ok_icmp_ge F dX7_init_60 (by decide) (by decide) (by decide), ?_⟩
  refine List.forall_mem_cons.mpr ⟨ok_aload_n F dX7_init_63 rfl (by decide), ?_⟩
  refine List.forall_mem_cons.mpr ⟨ok_getf F flX7_7 dX7_init_64 (by decide), ?_⟩
  refine List.forall_mem_cons.mpr ⟨ok_bipush F dX7_init_67 (by decide) (by decide), ?_⟩
  refine List.forall_mem_cons.mpr ⟨ok_iload_n F dX7_init_69 rfl (by decide), ?_⟩
  refine List.forall_mem_cons.mpr ⟨ok_iadd F dX7_init_70 (by decide), ?_⟩
  refine List.forall_mem_cons.mpr ⟨ok_iload_n F dX7_init_71 rfl (by decide), ?_⟩
  refine List.forall_mem_cons.mpr ⟨ok_callS F spok_X7_firstOf (by decide +kernel) rfl (by decide) dX7_init_72 (by decide), ?_⟩
  refine List.forall_mem_cons.mpr ⟨ok_iast F mW_sar dX7_init_75 (by decide), ?_⟩
  refine List.forall_mem_cons.mpr ⟨ok_iinc F dX7_init_76 (by decide) (by decide) (by decide), ?_⟩
  refine List.forall_mem_cons.mpr ⟨ok_goto F dX7_init_79 (by decide) (by decide) (by decide), ?_⟩
  refine List.forall_mem_cons.mpr ⟨ok_vret F G dX7_init_82 (by decide), ?_⟩
  exact fun _ h => absurd h List.not_mem_nil
set_option maxRecDepth 100000 in
theorem w_X7_init : (∀ (K : Kt MT) (n : Nat) (L : xL) (st : List Value) (S : MT), nx cod_X7_init cut_X7_init K (n + 1) 39 L st S = (O_aload 0 1) (nx cod_X7_init cut_X7_init K n) 39 L st S) ∧
  (∀ (K : Kt MT) (n : Nat) (L : xL) (st : List Value) (S : MT), nx cod_X7_init cut_X7_init K (n + 1) 40 L st S = (O_getf mW 7 0) (nx cod_X7_init cut_X7_init K n) 40 L st S) ∧
  (∀ (K : Kt MT) (n : Nat) (L : xL) (st : List Value) (S : MT), nx cod_X7_init cut_X7_init K (n + 1) 43 L st S = (O_int 2 1) (nx cod_X7_init cut_X7_init K n) 43 L st S) ∧
  (∀ (K : Kt MT) (n : Nat) (L : xL) (st : List Value) (S : MT), nx cod_X7_init cut_X7_init K (n + 1) 44 L st S = (O_int 10000 3) (nx cod_X7_init cut_X7_init K n) 44 L st S) ∧
  (∀ (K : Kt MT) (n : Nat) (L : xL) (st : List Value) (S : MT), nx cod_X7_init cut_X7_init K (n + 1) 47 L st S = (O_ast mW 0 mW_sa) (nx cod_X7_init cut_X7_init K n) 47 L st S) ∧
  (∀ (K : Kt MT) (n : Nat) (L : xL) (st : List Value) (S : MT), nx cod_X7_init cut_X7_init K (n + 1) 48 L st S = (O_aload 0 1) (nx cod_X7_init cut_X7_init K n) 48 L st S) ∧
  (∀ (K : Kt MT) (n : Nat) (L : xL) (st : List Value) (S : MT), nx cod_X7_init cut_X7_init K (n + 1) 49 L st S = (O_getf mW 7 0) (nx cod_X7_init cut_X7_init K n) 49 L st S) ∧
  (∀ (K : Kt MT) (n : Nat) (L : xL) (st : List Value) (S : MT), nx cod_X7_init cut_X7_init K (n + 1) 52 L st S = (O_int 4 1) (nx cod_X7_init cut_X7_init K n) 52 L st S) ∧
  (∀ (K : Kt MT) (n : Nat) (L : xL) (st : List Value) (S : MT), nx cod_X7_init cut_X7_init K (n + 1) 53 L st S = (O_int (-1) 1) (nx cod_X7_init cut_X7_init K n) 53 L st S) ∧
  (∀ (K : Kt MT) (n : Nat) (L : xL) (st : List Value) (S : MT), nx cod_X7_init cut_X7_init K (n + 1) 54 L st S = (O_ast mW 0 mW_sa) (nx cod_X7_init cut_X7_init K n) 54 L st S) ∧
  (∀ (K : Kt MT) (n : Nat) (L : xL) (st : List Value) (S : MT), nx cod_X7_init cut_X7_init K (n + 1) 55 L st S = (O_int 0 1) (nx cod_X7_init cut_X7_init K n) 55 L st S) ∧
  (∀ (K : Kt MT) (n : Nat) (L : xL) (st : List Value) (S : MT), nx cod_X7_init cut_X7_init K (n + 1) 56 L st S = (O_istore 1 1) (nx cod_X7_init cut_X7_init K n) 56 L st S) ∧
  (∀ (K : Kt MT) (n : Nat) (L : xL) (st : List Value) (S : MT), nx cod_X7_init cut_X7_init K (n + 1) 57 L st S = K 57 L st S) ∧
  (∀ (K : Kt MT) (n : Nat) (L : xL) (st : List Value) (S : MT), nx1 cod_X7_init cut_X7_init K n 57 L st S = (O_iload 1 1) (nx cod_X7_init cut_X7_init K n) 57 L st S) ∧
  (∀ (K : Kt MT) (n : Nat) (L : xL) (st : List Value) (S : MT), nx cod_X7_init cut_X7_init K (n + 1) 58 L st S = (O_int 19 2) (nx cod_X7_init cut_X7_init K n) 58 L st S) ∧
  (∀ (K : Kt MT) (n : Nat) (L : xL) (st : List Value) (S : MT), nx cod_X7_init cut_X7_init K (n + 1) 60 L st S = (O_icmp_ge 82) (nx cod_X7_init cut_X7_init K n) 60 L st S) ∧
  (∀ (K : Kt MT) (n : Nat) (L : xL) (st : List Value) (S : MT), nx cod_X7_init cut_X7_init K (n + 1) 63 L st S = (O_aload 0 1) (nx cod_X7_init cut_X7_init K n) 63 L st S) ∧
  (∀ (K : Kt MT) (n : Nat) (L : xL) (st : List Value) (S : MT), nx cod_X7_init cut_X7_init K (n + 1) 64 L st S = (O_getf mW 7 0) (nx cod_X7_init cut_X7_init K n) 64 L st S) ∧
  (∀ (K : Kt MT) (n : Nat) (L : xL) (st : List Value) (S : MT), nx cod_X7_init cut_X7_init K (n + 1) 67 L st S = (O_int 20 2) (nx cod_X7_init cut_X7_init K n) 67 L st S) ∧
  (∀ (K : Kt MT) (n : Nat) (L : xL) (st : List Value) (S : MT), nx cod_X7_init cut_X7_init K (n + 1) 69 L st S = (O_iload 1 1) (nx cod_X7_init cut_X7_init K n) 69 L st S) ∧
  (∀ (K : Kt MT) (n : Nat) (L : xL) (st : List Value) (S : MT), nx cod_X7_init cut_X7_init K (n + 1) 70 L st S = (O_iadd) (nx cod_X7_init cut_X7_init K n) 70 L st S) ∧
  (∀ (K : Kt MT) (n : Nat) (L : xL) (st : List Value) (S : MT), nx cod_X7_init cut_X7_init K (n + 1) 71 L st S = (O_iload 1 1) (nx cod_X7_init cut_X7_init K n) 71 L st S) ∧
  (∀ (K : Kt MT) (n : Nat) (L : xL) (st : List Value) (S : MT), nx cod_X7_init cut_X7_init K (n + 1) 72 L st S = (O_callS 1 sp_X7_firstOf) (nx cod_X7_init cut_X7_init K n) 72 L st S) ∧
  (∀ (K : Kt MT) (n : Nat) (L : xL) (st : List Value) (S : MT), nx cod_X7_init cut_X7_init K (n + 1) 75 L st S = (O_ast mW 0 mW_sa) (nx cod_X7_init cut_X7_init K n) 75 L st S) ∧
  (∀ (K : Kt MT) (n : Nat) (L : xL) (st : List Value) (S : MT), nx cod_X7_init cut_X7_init K (n + 1) 76 L st S = (O_iinc 1 1) (nx cod_X7_init cut_X7_init K n) 76 L st S) ∧
  (∀ (K : Kt MT) (n : Nat) (L : xL) (st : List Value) (S : MT), nx cod_X7_init cut_X7_init K (n + 1) 79 L st S = (O_goto 57) (nx cod_X7_init cut_X7_init K n) 79 L st S) ∧
  (∀ (K : Kt MT) (n : Nat) (L : xL) (st : List Value) (S : MT), nx cod_X7_init cut_X7_init K (n + 1) 82 L st S = (O_vret) (nx cod_X7_init cut_X7_init K n) 82 L st S) ∧
  (∀ (K : Kt MT) (n : Nat) (L : xL) (st : List Value) (S : MT), nx cod_X7_init cut_X7_init K (n + 1) 100000 L st S = K 100000 L st S) := by
  repeat' apply And.intro
  all_goals (intros; rfl)
def fillS (k : Nat) (f : Nat → Int32) : Nat → Int32 := upd f (20 + k) (firstS k)
theorem fillS_it (f : Nat → Int32) : ∀ n, n ≤ 19 → ∀ i, it fillS f n i = if 20 ≤ i ∧ i < 20 + n then firstS (i - 20) else f i
  | 0, _, i => by rw [if_neg (by omega)]; rfl
  | n + 1, h, i => by
    have ih := fillS_it f n (by omega)
    show upd (it fillS f n) (20 + n) (firstS n) i = _
    rw [upd_ite]
    split
    · rename_i q
      rw [if_pos (by omega), q, show 20 + n - 20 = n by omega]
    · rw [ih]
      by_cases c : 20 ≤ i ∧ i < 20 + n
      · rw [if_pos c, if_pos (by omega)]
      · rw [if_neg c, if_neg (by omega)]
theorem all0_eq : it fillS (upd (upd zf 2 10000) 4 (-1)) 19 = all0 := by
  funext i
  rw [fillS_it _ 19 (Nat.le_refl _)]
  unfold all0
  simp only [upd_ite]
  by_cases c : 20 ≤ i ∧ i < 20 + 19
  · rw [if_pos c, if_neg (by omega), if_neg (by omega), if_pos (by omega)]
  · rw [if_neg c, if_neg (show ¬ (20 ≤ i ∧ i < 39) by omega)]
    by_cases d : i = 2
    · rw [if_neg (by omega), if_pos d, if_pos d]
    · rw [if_neg d, if_neg d]
      rfl
theorem at_20 {k : Nat} (hk : k < 19) : inR (nI k) 0 18 = true ∧ (20 : Int32) + nI k = nI (20 + k) ∧ vp_in (nI (20 + k)) 170 ∧ (nI (20 + k)).toNatClampNeg = 20 + k ∧ (nI k).toNatClampNeg = k ∧ nI k < 19 ∧ nI k + 1 = nI (k + 1) := by
  refine ⟨?_, by rw [show (20 : Int32) = nI 20 from rfl, nI_add], vp_in_nI (by omega) (by omega), nI_clamp (by omega), nI_clamp (by omega), by rw [show (19 : Int32) = nI 19 from rfl, nI_ltI (by omega) (by omega)]; exact hk, nI_1 k⟩
  have key : ∀ k, k < 19 → inR (nI k) 0 18 = true := by decide
  exact key k hk
theorem coni_X7 : ConI yX7_init cX7_init 2 1 (4, 1080) (.inr (.inl (7, [.null, .null, .int 0, .null, .int 0, .null, .int 0, .int 0, .int 0, .int 0, .int 0, .int 0, .int 0]))) (mW (M0.sAll all0)) := by
  refine ConI.of (by decide) rfl (by decide) (by simp [cok, rl]) (fun E F G I Cs Rm H => ?_)
  refine gi_aload F dX7_init_0 rfl rfl ?_
  refine gi_obj F (by decide +kernel) dX7_init_1 (by decide) (by decide) ?_
  refine gi_aload F dX7_init_4 rfl rfl ?_
  refine gi_sipush F (v := 170) dX7_init_5 (by decide) ?_
  refine gi_newa F (t := 0) (N := 170) (by decide) rfl (by decide) (by decide) (by decide) (by decide +kernel) dX7_init_8 (by simp [wok, cok, rl]) (by simp) (by simp [rlL, rl, xarg, xargs]) (by simp [rl]) (Rm _ (by decide) (by decide)) ?_
  refine gi_putF F I (ci := 7) (slot := 0) (k := 0) rfl (by simp) (fun _ _ _ h => by cases h; exact ⟨rfl, rfl⟩) (fun _ => rfl) (fun _ => rfl) (by decide +kernel) dX7_init_10 ?_
  refine gi_aload F dX7_init_13 rfl rfl ?_
  refine gi_sipush F (v := 680) dX7_init_14 (by decide) ?_
  refine gi_newa F (t := 0) (N := 680) (by decide) rfl (by decide) (by decide) (by decide) (by decide +kernel) dX7_init_17 (by simp [wok, cok, rl]) (by simp) (by simp [rlL, rl, xarg, xargs]) (by simp [rl]) (Rm _ (by decide) (by decide)) ?_
  refine gi_putF F I (ci := 7) (slot := 1) (k := 0) rfl (by simp) (fun _ _ _ h => by cases h; exact ⟨rfl, rfl⟩) (fun _ => rfl) (fun _ => rfl) (by decide +kernel) dX7_init_19 ?_
  refine gi_aload F dX7_init_22 rfl rfl ?_
  refine gi_sipush F (v := 170) dX7_init_23 (by decide) ?_
  refine gi_newa F (t := 0) (N := 170) (by decide) rfl (by decide) (by decide) (by decide) (by decide +kernel) dX7_init_26 (by simp [wok, cok, rl]) (by simp) (by simp [rlL, rl, xarg, xargs]) (by simp [rl]) (Rm _ (by decide) (by decide)) ?_
  refine gi_putF F I (ci := 7) (slot := 3) (k := 0) rfl (by simp) (fun _ _ _ h => by cases h; exact ⟨rfl, rfl⟩) (fun _ => rfl) (fun _ => rfl) (by decide +kernel) dX7_init_28 ?_
  refine gi_aload F dX7_init_31 rfl rfl ?_
  refine gi_bipush F (v := 60) dX7_init_32 (by decide) ?_
  refine gi_newa F (t := 0) (N := 60) (by decide) rfl (by decide) (by decide) (by decide) (by decide +kernel) dX7_init_34 (by simp [wok, cok, rl]) (by simp) (by simp [rlL, rl, xarg, xargs]) (by simp [rl]) (Rm _ (by decide) (by decide)) ?_
  refine gi_putF F I (ci := 7) (slot := 5) (k := 0) rfl (by simp) (fun _ _ _ h => by cases h; exact ⟨rfl, rfl⟩) (fun _ => rfl) (fun _ => rfl) (by decide +kernel) dX7_init_36 ?_
  refine gi_gd (toW := mW) (S := M0) Cs (by decide) (fun ad h0 => ?_)
  have C := okc_X7_init (Fx_ad F ad) (Fr_ad G ad)
  have hr := gd_end (toW := mW) (S := M0.sAll all0) H h0
  have fin : ∀ q : Option Value, Gd (setAd E ad) mW 57 [some (.ref 0), some (.int (nI 0))] [] (M0.sAll (upd (upd zf 2 10000) 4 (-1))) := by
    intro _
    refine it_up (f := fillS) (a := upd (upd zf 2 10000) 4 (-1)) (n := 19) (fun _ _ => True) (fun k f => Gd (setAd E ad) mW 57 [some (.ref 0), some (.int (nI k))] [] (M0.sAll f)) trivial (fun _ _ _ _ => trivial) (fun k f hk _ hn => ?_) ?_
    · have hx := at_20 hk
      clear hr H
      refine nx1_ok C cut_X7_init 1000 ?_
      simp only [w_X7_init, ops_eq, xst_eq, call_eq, oK_eq, Option.toList_some, Option.toList_none, List.cons_append, List.nil_append, List.length_cons, List.length_nil, true_and, and_true, Nat.reduceAdd, mW_F, mW_A, mW_S, mW_P, MT_gs, se_X7_firstOf, hx, xnar_0]
      ((repeat' (with_reducible first | apply And.intro | intro _)) <;> first | (with_reducible assumption) | (with_reducible exact Nat.zero_le _) | contradiction | (simp_all [fillS]; done) | assumption)
    · rw [all0_eq]
      refine nx1_ok C cut_X7_init 1000 ?_
      simp only [w_X7_init, ops_eq, xst_eq, call_eq, oK_eq, Option.toList_some, Option.toList_none, List.cons_append, List.nil_append, List.length_cons, List.length_nil, true_and, and_true, Nat.reduceAdd, mW_F, mW_A, mW_S, mW_P, MT_gs, show ¬ nI 19 < 19 from by decide]
      ((repeat' (with_reducible first | apply And.intro | intro _)) <;> first | (with_reducible assumption) | (with_reducible exact Nat.zero_le _) | contradiction | (simp_all; done) | assumption)
  have fin := fin none
  have ez : M0.all = zf := rfl
  clear hr H
  refine nx_ok C (cuts := cut_X7_init) 1000 _ _ _ _ ?_
  simp only [w_X7_init, ops_eq, xst_eq, call_eq, oK_eq, Option.toList_some, Option.toList_none, List.cons_append, List.nil_append, List.length_cons, List.length_nil, true_and, and_true, Nat.reduceAdd, mW_F, mW_A, mW_S, mW_P, MT_gs, xarg, xargs, List.replicate, List.length_cons, List.length_nil, v170, cl_eq, xnar_0, ez]
  ((repeat' (with_reducible first | apply And.intro | intro _)) <;> first | (with_reducible assumption) | (with_reducible exact Nat.zero_le _) | contradiction | (simp_all; done) | assumption)
