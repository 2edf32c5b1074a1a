/-! ===== the law's cases ===== -/
theorem O_z2 {σ τ : Type} (K : Kt σ) (pc : Nat) (S : σ) (L : xL) (r : List Value) (k b : Nat) (u v : Int32) (y : MethodName) (cc : ByteArray) (maxL : Nat) (ret : Option FieldType) (d : Nat) (toT : τ → xW) (g : σ → τ) (f : σ → τ → σ) : O_callZ 2 b y cc maxL ret d toT g f K pc L (.int u :: .int v :: .ref k :: r) S = (k = b ∧ r.length ≤ 4 ∧ ∃ (x : Int32) (P' : τ), ConS y cc maxL ret d toT [.ref 0, .int v, .int u] (g S) (some (.int x)) P' ∧ K (pc + 3) L (.int x :: r) (f S P')) := by
  apply propext
  constructor
  · rintro ⟨h1, h2, h3, h4⟩
    exact ⟨h1, h2, h4⟩
  · rintro ⟨h1, h2, h4⟩
    exact ⟨h1, h2, rfl, h4⟩
theorem nI_j (t : Nat) : nI (4 * t) + 1 = nI (4 * t + 1) ∧ nI (4 * t) + 2 = nI (4 * t + 2) ∧ nI (4 * t) + 3 = nI (4 * t + 3) ∧ nI (4 * t) + 4 = nI (4 * (t + 1)) := ⟨nI_add _ 1, nI_add _ 2, nI_add _ 3, nI_add _ 4⟩
theorem nI_w {t n : Nat} (h : 4 * t + 4 ≤ n) (hn : n ≤ 2048) : vp_in (nI (4 * t)) n ∧ vp_in (nI (4 * t + 1)) n ∧ vp_in (nI (4 * t + 2)) n ∧ vp_in (nI (4 * t + 3)) n ∧ (nI (4 * t)).toNatClampNeg = 4 * t ∧ (nI (4 * t + 1)).toNatClampNeg = 4 * t + 1 ∧ (nI (4 * t + 2)).toNatClampNeg = 4 * t + 2 ∧ (nI (4 * t + 3)).toNatClampNeg = 4 * t + 3 := ⟨vp_in_nI (by omega) (by omega), vp_in_nI (by omega) (by omega), vp_in_nI (by omega) (by omega), vp_in_nI (by omega) (by omega), nI_clamp (by omega), nI_clamp (by omega), nI_clamp (by omega), nI_clamp (by omega)⟩
set_option maxRecDepth 100000 in
theorem lc_set {E : En} {n : Nat} {xs : Nat → Int32} (C : CodOk E lW (cod_law n xs)) (hn : n ≤ 2048) {t : Nat} (ht : 4 * t + 4 ≤ n) {F : FT} {M : MT} {r0 : Nat} (h : Rel (r0 + RM) F M) (kk : ∀ F' M', Rel r0 F' M' → Gd E lW 830 [some (.ref 1003), some (.ref 0), some (.ref 148), some (.int (nI (4 * t)))] [] (F', (F'.now, M', false))) : Gd E lW 152 [some (.ref 1003), some (.ref 0), some (.ref 148), some (.int (nI (4 * t)))] [] (F, (F.now, M, false)) := by
  obtain ⟨q, F', M', h1, h2, h3⟩ := st_set h (xs (4 * t + 1)) (xs (4 * t + 2))
  have hk := kk F' M' h3
  have hj := nI_j t
  have hw := nI_w ht hn
  clear kk h h3 ht hn
  refine nx1_ok C cut_law 1000 ?_
  simp only [w_law, ops_eq, xst_eq, call_eq, oK_eq, Option.toList_some, Option.toList_none, List.cons_append, List.nil_append, List.length_cons, List.length_nil, true_and, and_true, Nat.reduceAdd, call_eq, O_g_eq, O_s_eq, spG_eq, hj, hw, O_z2]
  refine ⟨Nat.zero_le _, q, F', h1, by decide, q, (F'.now, M', false), h2, ?_, ?_⟩
  · exact fun _ => hk
  · exact fun z => (z rfl).elim
set_option maxRecDepth 100000 in
theorem lc_pump {E : En} {n : Nat} {xs : Nat → Int32} (C : CodOk E lW (cod_law n xs)) (hn : n ≤ 2048) {t : Nat} (ht : 4 * t + 4 ≤ n) {F : FT} {M : MT} {r0 : Nat} (h : Rel (r0 + RM) F M) (kk : ∀ F' M', Rel r0 F' M' → Gd E lW 830 [some (.ref 1003), some (.ref 0), some (.ref 148), some (.int (nI (4 * t)))] [] (F', (F'.now, M', false))) : Gd E lW 185 [some (.ref 1003), some (.ref 0), some (.ref 148), some (.int (nI (4 * t)))] [] (F, (F.now, M, false)) := by
  obtain ⟨q, F', M', h1, h2, h3⟩ := st_pump h (xs (4 * t + 1)) (xs (4 * t + 2)) (xs (4 * t + 3))
  have hk := kk F' M' h3
  have hj := nI_j t
  have hw := nI_w ht hn
  clear kk h h3 ht hn
  refine nx1_ok C cut_law 1000 ?_
  simp only [w_law, ops_eq, xst_eq, call_eq, oK_eq, Option.toList_some, Option.toList_none, List.cons_append, List.nil_append, List.length_cons, List.length_nil, true_and, and_true, Nat.reduceAdd, call_eq, O_g_eq, O_s_eq, spG_eq, hj, hw]
  refine ⟨Nat.zero_le _, q, F', h1, by decide, q, (F'.now, M', false), h2, ?_, ?_⟩
  · exact fun _ => hk
  · exact fun z => (z rfl).elim
set_option maxRecDepth 100000 in
theorem lc_service {E : En} {n : Nat} {xs : Nat → Int32} (C : CodOk E lW (cod_law n xs)) (hn : n ≤ 2048) {t : Nat} (ht : 4 * t + 4 ≤ n) {F : FT} {M : MT} {r0 : Nat} (h : Rel (r0 + RM) F M) (kk : ∀ F' M', Rel r0 F' M' → Gd E lW 830 [some (.ref 1003), some (.ref 0), some (.ref 148), some (.int (nI (4 * t)))] [] (F', (F'.now, M', false))) : Gd E lW 228 [some (.ref 1003), some (.ref 0), some (.ref 148), some (.int (nI (4 * t)))] [] (F, (F.now, M, false)) := by
  obtain ⟨q, F', M', h1, h2, h3⟩ := st_service h (xs (4 * t + 1)) (xs (4 * t + 2))
  have hk := kk F' M' h3
  have hj := nI_j t
  have hw := nI_w ht hn
  clear kk h h3 ht hn
  refine nx1_ok C cut_law 1000 ?_
  simp only [w_law, ops_eq, xst_eq, call_eq, oK_eq, Option.toList_some, Option.toList_none, List.cons_append, List.nil_append, List.length_cons, List.length_nil, true_and, and_true, Nat.reduceAdd, call_eq, O_g_eq, O_s_eq, spG_eq, hj, hw]
  refine ⟨Nat.zero_le _, q, F', h1, by decide, q, (F'.now, M', false), h2, ?_, ?_⟩
  · exact fun _ => hk
  · exact fun z => (z rfl).elim
set_option maxRecDepth 100000 in
theorem lc_pumpOf {E : En} {n : Nat} {xs : Nat → Int32} (C : CodOk E lW (cod_law n xs)) (hn : n ≤ 2048) {t : Nat} (ht : 4 * t + 4 ≤ n) {F : FT} {M : MT} {r0 : Nat} (h : Rel (r0 + RM) F M) (kk : ∀ F' M', Rel r0 F' M' → Gd E lW 830 [some (.ref 1003), some (.ref 0), some (.ref 148), some (.int (nI (4 * t)))] [] (F', (F'.now, M', false))) : Gd E lW 261 [some (.ref 1003), some (.ref 0), some (.ref 148), some (.int (nI (4 * t)))] [] (F, (F.now, M, false)) := by
  obtain ⟨q, F', M', h1, h2, h3⟩ := st_pumpOf h (xs (4 * t + 1)) (xs (4 * t + 2))
  have hk := kk F' M' h3
  have hj := nI_j t
  have hw := nI_w ht hn
  clear kk h h3 ht hn
  refine nx1_ok C cut_law 1000 ?_
  simp only [w_law, ops_eq, xst_eq, call_eq, oK_eq, Option.toList_some, Option.toList_none, List.cons_append, List.nil_append, List.length_cons, List.length_nil, true_and, and_true, Nat.reduceAdd, call_eq, O_g_eq, O_s_eq, spG_eq, hj, hw]
  refine ⟨Nat.zero_le _, q, F', h1, by decide, q, (F'.now, M', false), h2, ?_, ?_⟩
  · exact fun _ => hk
  · exact fun z => (z rfl).elim
set_option maxRecDepth 100000 in
theorem lc_curve {E : En} {n : Nat} {xs : Nat → Int32} (C : CodOk E lW (cod_law n xs)) (hn : n ≤ 2048) {t : Nat} (ht : 4 * t + 4 ≤ n) {F : FT} {M : MT} {r0 : Nat} (h : Rel (r0 + RM) F M) (kk : ∀ F' M', Rel r0 F' M' → Gd E lW 830 [some (.ref 1003), some (.ref 0), some (.ref 148), some (.int (nI (4 * t)))] [] (F', (F'.now, M', false))) : Gd E lW 294 [some (.ref 1003), some (.ref 0), some (.ref 148), some (.int (nI (4 * t)))] [] (F, (F.now, M, false)) := by
  obtain ⟨q, F', M', h1, h2, h3⟩ := st_curve h (xs (4 * t + 1)) (xs (4 * t + 2)) (xs (4 * t + 3))
  have hk := kk F' M' h3
  have hj := nI_j t
  have hw := nI_w ht hn
  clear kk h h3 ht hn
  refine nx1_ok C cut_law 1000 ?_
  simp only [w_law, ops_eq, xst_eq, call_eq, oK_eq, Option.toList_some, Option.toList_none, List.cons_append, List.nil_append, List.length_cons, List.length_nil, true_and, and_true, Nat.reduceAdd, call_eq, O_g_eq, O_s_eq, spG_eq, hj, hw]
  refine ⟨Nat.zero_le _, q, F', h1, by decide, q, (F'.now, M', false), h2, ?_, ?_⟩
  · exact fun _ => hk
  · exact fun z => (z rfl).elim
set_option maxRecDepth 100000 in
theorem lc_readyAt {E : En} {n : Nat} {xs : Nat → Int32} (C : CodOk E lW (cod_law n xs)) (hn : n ≤ 2048) {t : Nat} (ht : 4 * t + 4 ≤ n) {F : FT} {M : MT} {r0 : Nat} (h : Rel (r0 + RM) F M) (kk : ∀ F' M', Rel r0 F' M' → Gd E lW 830 [some (.ref 1003), some (.ref 0), some (.ref 148), some (.int (nI (4 * t)))] [] (F', (F'.now, M', false))) : Gd E lW 337 [some (.ref 1003), some (.ref 0), some (.ref 148), some (.int (nI (4 * t)))] [] (F, (F.now, M, false)) := by
  obtain ⟨q, F', M', h1, h2, h3⟩ := st_readyAt h (xs (4 * t + 1))
  have hk := kk F' M' h3
  have hj := nI_j t
  have hw := nI_w ht hn
  clear kk h h3 ht hn
  refine nx1_ok C cut_law 1000 ?_
  simp only [w_law, ops_eq, xst_eq, call_eq, oK_eq, Option.toList_some, Option.toList_none, List.cons_append, List.nil_append, List.length_cons, List.length_nil, true_and, and_true, Nat.reduceAdd, call_eq, O_g_eq, O_s_eq, spG_eq, hj, hw]
  refine ⟨Nat.zero_le _, q, F', h1, by decide, q, (F'.now, M', false), h2, ?_, ?_⟩
  · exact fun _ => hk
  · exact fun z => (z rfl).elim
set_option maxRecDepth 100000 in
theorem lc_balance {E : En} {n : Nat} {xs : Nat → Int32} (C : CodOk E lW (cod_law n xs)) (hn : n ≤ 2048) {t : Nat} (ht : 4 * t + 4 ≤ n) {F : FT} {M : MT} {r0 : Nat} (h : Rel (r0 + RM) F M) (kk : ∀ F' M', Rel r0 F' M' → Gd E lW 830 [some (.ref 1003), some (.ref 0), some (.ref 148), some (.int (nI (4 * t)))] [] (F', (F'.now, M', false))) : Gd E lW 360 [some (.ref 1003), some (.ref 0), some (.ref 148), some (.int (nI (4 * t)))] [] (F, (F.now, M, false)) := by
  obtain ⟨q, F', M', h1, h2, h3⟩ := st_balance h 
  have hk := kk F' M' h3
  have hj := nI_j t
  have hw := nI_w ht hn
  clear kk h h3 ht hn
  refine nx1_ok C cut_law 1000 ?_
  simp only [w_law, ops_eq, xst_eq, call_eq, oK_eq, Option.toList_some, Option.toList_none, List.cons_append, List.nil_append, List.length_cons, List.length_nil, true_and, and_true, Nat.reduceAdd, call_eq, O_g_eq, O_s_eq, spG_eq, hj, hw]
  refine ⟨Nat.zero_le _, q, F', h1, by decide, q, (F'.now, M', false), h2, ?_, ?_⟩
  · exact fun _ => hk
  · exact fun z => (z rfl).elim
set_option maxRecDepth 100000 in
theorem lc_zone {E : En} {n : Nat} {xs : Nat → Int32} (C : CodOk E lW (cod_law n xs)) (hn : n ≤ 2048) {t : Nat} (ht : 4 * t + 4 ≤ n) {F : FT} {M : MT} {r0 : Nat} (h : Rel (r0 + RM) F M) (kk : ∀ F' M', Rel r0 F' M' → Gd E lW 830 [some (.ref 1003), some (.ref 0), some (.ref 148), some (.int (nI (4 * t)))] [] (F', (F'.now, M', false))) : Gd E lW 373 [some (.ref 1003), some (.ref 0), some (.ref 148), some (.int (nI (4 * t)))] [] (F, (F.now, M, false)) := by
  obtain ⟨q, F', M', h1, h2, h3⟩ := st_zone h (xs (4 * t + 1))
  have hk := kk F' M' h3
  have hj := nI_j t
  have hw := nI_w ht hn
  clear kk h h3 ht hn
  refine nx1_ok C cut_law 1000 ?_
  simp only [w_law, ops_eq, xst_eq, call_eq, oK_eq, Option.toList_some, Option.toList_none, List.cons_append, List.nil_append, List.length_cons, List.length_nil, true_and, and_true, Nat.reduceAdd, call_eq, O_g_eq, O_s_eq, spG_eq, hj, hw]
  refine ⟨Nat.zero_le _, q, F', h1, by decide, q, (F'.now, M', false), h2, ?_, ?_⟩
  · exact fun _ => hk
  · exact fun z => (z rfl).elim
set_option maxRecDepth 100000 in
theorem lc_open {E : En} {n : Nat} {xs : Nat → Int32} (C : CodOk E lW (cod_law n xs)) (hn : n ≤ 2048) {t : Nat} (ht : 4 * t + 4 ≤ n) {F : FT} {M : MT} {r0 : Nat} (h : Rel (r0 + RM) F M) (kk : ∀ F' M', Rel r0 F' M' → Gd E lW 830 [some (.ref 1003), some (.ref 0), some (.ref 148), some (.int (nI (4 * t)))] [] (F', (F'.now, M', false))) : Gd E lW 396 [some (.ref 1003), some (.ref 0), some (.ref 148), some (.int (nI (4 * t)))] [] (F, (F.now, M, false)) := by
  obtain ⟨q, F', M', h1, h2, h3⟩ := st_open h (xs (4 * t + 1)) (xs (4 * t + 2))
  have hk := kk F' M' h3
  have hj := nI_j t
  have hw := nI_w ht hn
  clear kk h h3 ht hn
  refine nx1_ok C cut_law 1000 ?_
  simp only [w_law, ops_eq, xst_eq, call_eq, oK_eq, Option.toList_some, Option.toList_none, List.cons_append, List.nil_append, List.length_cons, List.length_nil, true_and, and_true, Nat.reduceAdd, call_eq, O_g_eq, O_s_eq, spG_eq, hj, hw]
  refine ⟨Nat.zero_le _, q, F', h1, by decide, q, (F'.now, M', false), h2, ?_, ?_⟩
  · exact fun _ => hk
  · exact fun z => (z rfl).elim
set_option maxRecDepth 100000 in
theorem lc_leak {E : En} {n : Nat} {xs : Nat → Int32} (C : CodOk E lW (cod_law n xs)) (hn : n ≤ 2048) {t : Nat} (ht : 4 * t + 4 ≤ n) {F : FT} {M : MT} {r0 : Nat} (h : Rel (r0 + RM) F M) (kk : ∀ F' M', Rel r0 F' M' → Gd E lW 830 [some (.ref 1003), some (.ref 0), some (.ref 148), some (.int (nI (4 * t)))] [] (F', (F'.now, M', false))) : Gd E lW 429 [some (.ref 1003), some (.ref 0), some (.ref 148), some (.int (nI (4 * t)))] [] (F, (F.now, M, false)) := by
  obtain ⟨q, F', M', h1, h2, h3⟩ := st_leak h (xs (4 * t + 1))
  have hk := kk F' M' h3
  have hj := nI_j t
  have hw := nI_w ht hn
  clear kk h h3 ht hn
  refine nx1_ok C cut_law 1000 ?_
  simp only [w_law, ops_eq, xst_eq, call_eq, oK_eq, Option.toList_some, Option.toList_none, List.cons_append, List.nil_append, List.length_cons, List.length_nil, true_and, and_true, Nat.reduceAdd, call_eq, O_g_eq, O_s_eq, spG_eq, hj, hw]
  refine ⟨Nat.zero_le _, q, F', h1, by decide, q, (F'.now, M', false), h2, ?_, ?_⟩
  · exact fun _ => hk
  · exact fun z => (z rfl).elim
set_option maxRecDepth 100000 in
theorem lc_programme {E : En} {n : Nat} {xs : Nat → Int32} (C : CodOk E lW (cod_law n xs)) (hn : n ≤ 2048) {t : Nat} (ht : 4 * t + 4 ≤ n) {F : FT} {M : MT} {r0 : Nat} (h : Rel (r0 + RM) F M) (kk : ∀ F' M', Rel r0 F' M' → Gd E lW 830 [some (.ref 1003), some (.ref 0), some (.ref 148), some (.int (nI (4 * t)))] [] (F', (F'.now, M', false))) : Gd E lW 452 [some (.ref 1003), some (.ref 0), some (.ref 148), some (.int (nI (4 * t)))] [] (F, (F.now, M, false)) := by
  obtain ⟨q, F', M', h1, h2, h3⟩ := st_programme h (xs (4 * t + 1)) (xs (4 * t + 2)) (xs (4 * t + 3))
  have hk := kk F' M' h3
  have hj := nI_j t
  have hw := nI_w ht hn
  clear kk h h3 ht hn
  refine nx1_ok C cut_law 1000 ?_
  simp only [w_law, ops_eq, xst_eq, call_eq, oK_eq, Option.toList_some, Option.toList_none, List.cons_append, List.nil_append, List.length_cons, List.length_nil, true_and, and_true, Nat.reduceAdd, call_eq, O_g_eq, O_s_eq, spG_eq, hj, hw]
  refine ⟨Nat.zero_le _, q, F', h1, by decide, q, (F'.now, M', false), h2, ?_, ?_⟩
  · exact fun _ => hk
  · exact fun z => (z rfl).elim
set_option maxRecDepth 100000 in
theorem lc_zoneOf {E : En} {n : Nat} {xs : Nat → Int32} (C : CodOk E lW (cod_law n xs)) (hn : n ≤ 2048) {t : Nat} (ht : 4 * t + 4 ≤ n) {F : FT} {M : MT} {r0 : Nat} (h : Rel (r0 + RM) F M) (kk : ∀ F' M', Rel r0 F' M' → Gd E lW 830 [some (.ref 1003), some (.ref 0), some (.ref 148), some (.int (nI (4 * t)))] [] (F', (F'.now, M', false))) : Gd E lW 495 [some (.ref 1003), some (.ref 0), some (.ref 148), some (.int (nI (4 * t)))] [] (F, (F.now, M, false)) := by
  obtain ⟨q, F', M', h1, h2, h3⟩ := st_zoneOf h (xs (4 * t + 1)) (xs (4 * t + 2))
  have hk := kk F' M' h3
  have hj := nI_j t
  have hw := nI_w ht hn
  clear kk h h3 ht hn
  refine nx1_ok C cut_law 1000 ?_
  simp only [w_law, ops_eq, xst_eq, call_eq, oK_eq, Option.toList_some, Option.toList_none, List.cons_append, List.nil_append, List.length_cons, List.length_nil, true_and, and_true, Nat.reduceAdd, call_eq, O_g_eq, O_s_eq, spG_eq, hj, hw]
  refine ⟨Nat.zero_le _, q, F', h1, by decide, q, (F'.now, M', false), h2, ?_, ?_⟩
  · exact fun _ => hk
  · exact fun z => (z rfl).elim
set_option maxRecDepth 100000 in
theorem lc_fill {E : En} {n : Nat} {xs : Nat → Int32} (C : CodOk E lW (cod_law n xs)) (hn : n ≤ 2048) {t : Nat} (ht : 4 * t + 4 ≤ n) {F : FT} {M : MT} {r0 : Nat} (h : Rel (r0 + RM) F M) (kk : ∀ F' M', Rel r0 F' M' → Gd E lW 830 [some (.ref 1003), some (.ref 0), some (.ref 148), some (.int (nI (4 * t)))] [] (F', (F'.now, M', false))) : Gd E lW 528 [some (.ref 1003), some (.ref 0), some (.ref 148), some (.int (nI (4 * t)))] [] (F, (F.now, M, false)) := by
  obtain ⟨q, F', M', h1, h2, h3⟩ := st_fill h (xs (4 * t + 1))
  have hk := kk F' M' h3
  have hj := nI_j t
  have hw := nI_w ht hn
  clear kk h h3 ht hn
  refine nx1_ok C cut_law 1000 ?_
  simp only [w_law, ops_eq, xst_eq, call_eq, oK_eq, Option.toList_some, Option.toList_none, List.cons_append, List.nil_append, List.length_cons, List.length_nil, true_and, and_true, Nat.reduceAdd, call_eq, O_g_eq, O_s_eq, spG_eq, hj, hw]
  refine ⟨Nat.zero_le _, q, F', h1, by decide, q, (F'.now, M', false), h2, ?_, ?_⟩
  · exact fun _ => hk
  · exact fun z => (z rfl).elim
set_option maxRecDepth 100000 in
theorem lc_reset {E : En} {n : Nat} {xs : Nat → Int32} (C : CodOk E lW (cod_law n xs)) (hn : n ≤ 2048) {t : Nat} (ht : 4 * t + 4 ≤ n) {F : FT} {M : MT} {r0 : Nat} (h : Rel (r0 + RM) F M) (kk : ∀ F' M', Rel r0 F' M' → Gd E lW 830 [some (.ref 1003), some (.ref 0), some (.ref 148), some (.int (nI (4 * t)))] [] (F', (F'.now, M', false))) : Gd E lW 551 [some (.ref 1003), some (.ref 0), some (.ref 148), some (.int (nI (4 * t)))] [] (F, (F.now, M, false)) := by
  obtain ⟨q, F', M', h1, h2, h3⟩ := st_reset h 
  have hk := kk F' M' h3
  have hj := nI_j t
  have hw := nI_w ht hn
  clear kk h h3 ht hn
  refine nx1_ok C cut_law 1000 ?_
  simp only [w_law, ops_eq, xst_eq, call_eq, oK_eq, Option.toList_some, Option.toList_none, List.cons_append, List.nil_append, List.length_cons, List.length_nil, true_and, and_true, Nat.reduceAdd, call_eq, O_g_eq, O_s_eq, spG_eq, hj, hw]
  refine ⟨Nat.zero_le _, q, F', h1, by decide, q, (F'.now, M', false), h2, ?_, ?_⟩
  · exact fun _ => hk
  · exact fun z => (z rfl).elim
set_option maxRecDepth 100000 in
theorem lc_pass {E : En} {n : Nat} {xs : Nat → Int32} (C : CodOk E lW (cod_law n xs)) (hn : n ≤ 2048) {t : Nat} (ht : 4 * t + 4 ≤ n) {F : FT} {M : MT} {r0 : Nat} (h : Rel (r0 + RM) F M) (kk : ∀ F' M', Rel r0 F' M' → Gd E lW 830 [some (.ref 1003), some (.ref 0), some (.ref 148), some (.int (nI (4 * t)))] [] (F', (F'.now, M', false))) : Gd E lW 564 [some (.ref 1003), some (.ref 0), some (.ref 148), some (.int (nI (4 * t)))] [] (F, (F.now, M, false)) := by
  obtain ⟨q, F', M', h1, h2, h3⟩ := st_pass h (xs (4 * t + 1))
  have hk := kk F' M' h3
  have hj := nI_j t
  have hw := nI_w ht hn
  clear kk h h3 ht hn
  refine nx1_ok C cut_law 1000 ?_
  simp only [w_law, ops_eq, xst_eq, call_eq, oK_eq, Option.toList_some, Option.toList_none, List.cons_append, List.nil_append, List.length_cons, List.length_nil, true_and, and_true, Nat.reduceAdd, call_eq, O_g_eq, O_s_eq, spG_eq, hj, hw]
  refine ⟨Nat.zero_le _, q, F', h1, by decide, q, (F'.now, M', false), h2, ?_, ?_⟩
  · exact fun _ => hk
  · exact fun z => (z rfl).elim
set_option maxRecDepth 100000 in
theorem lc_foresee {E : En} {n : Nat} {xs : Nat → Int32} (C : CodOk E lW (cod_law n xs)) (hn : n ≤ 2048) {t : Nat} (ht : 4 * t + 4 ≤ n) {F : FT} {M : MT} {r0 : Nat} (h : Rel (r0 + RM) F M) (kk : ∀ F' M', Rel r0 F' M' → Gd E lW 830 [some (.ref 1003), some (.ref 0), some (.ref 148), some (.int (nI (4 * t)))] [] (F', (F'.now, M', false))) : Gd E lW 587 [some (.ref 1003), some (.ref 0), some (.ref 148), some (.int (nI (4 * t)))] [] (F, (F.now, M, false)) := by
  obtain ⟨q, F', M', h1, h2, h3⟩ := st_foresee h (xs (4 * t + 1)) (xs (4 * t + 2))
  have hk := kk F' M' h3
  have hj := nI_j t
  have hw := nI_w ht hn
  clear kk h h3 ht hn
  refine nx1_ok C cut_law 1000 ?_
  simp only [w_law, ops_eq, xst_eq, call_eq, oK_eq, Option.toList_some, Option.toList_none, List.cons_append, List.nil_append, List.length_cons, List.length_nil, true_and, and_true, Nat.reduceAdd, call_eq, O_g_eq, O_s_eq, spG_eq, hj, hw]
  refine ⟨Nat.zero_le _, q, F', h1, by decide, q, (F'.now, M', false), h2, ?_, ?_⟩
  · exact fun _ => hk
  · exact fun z => (z rfl).elim
set_option maxRecDepth 100000 in
theorem lc_foreseeEvent {E : En} {n : Nat} {xs : Nat → Int32} (C : CodOk E lW (cod_law n xs)) (hn : n ≤ 2048) {t : Nat} (ht : 4 * t + 4 ≤ n) {F : FT} {M : MT} {r0 : Nat} (h : Rel (r0 + RM) F M) (kk : ∀ F' M', Rel r0 F' M' → Gd E lW 830 [some (.ref 1003), some (.ref 0), some (.ref 148), some (.int (nI (4 * t)))] [] (F', (F'.now, M', false))) : Gd E lW 620 [some (.ref 1003), some (.ref 0), some (.ref 148), some (.int (nI (4 * t)))] [] (F, (F.now, M, false)) := by
  obtain ⟨q, F', M', h1, h2, h3⟩ := st_foreseeEvent h (xs (4 * t + 1))
  have hk := kk F' M' h3
  have hj := nI_j t
  have hw := nI_w ht hn
  clear kk h h3 ht hn
  refine nx1_ok C cut_law 1000 ?_
  simp only [w_law, ops_eq, xst_eq, call_eq, oK_eq, Option.toList_some, Option.toList_none, List.cons_append, List.nil_append, List.length_cons, List.length_nil, true_and, and_true, Nat.reduceAdd, call_eq, O_g_eq, O_s_eq, spG_eq, hj, hw]
  refine ⟨Nat.zero_le _, q, F', h1, by decide, q, (F'.now, M', false), h2, ?_, ?_⟩
  · exact fun _ => hk
  · exact fun z => (z rfl).elim
set_option maxRecDepth 100000 in
theorem lc_station {E : En} {n : Nat} {xs : Nat → Int32} (C : CodOk E lW (cod_law n xs)) (hn : n ≤ 2048) {t : Nat} (ht : 4 * t + 4 ≤ n) {F : FT} {M : MT} {r0 : Nat} (h : Rel (r0 + RM) F M) (kk : ∀ F' M', Rel r0 F' M' → Gd E lW 830 [some (.ref 1003), some (.ref 0), some (.ref 148), some (.int (nI (4 * t)))] [] (F', (F'.now, M', false))) : Gd E lW 643 [some (.ref 1003), some (.ref 0), some (.ref 148), some (.int (nI (4 * t)))] [] (F, (F.now, M, false)) := by
  obtain ⟨q, F', M', h1, h2, h3⟩ := st_station h (xs (4 * t + 1))
  have hk := kk F' M' h3
  have hj := nI_j t
  have hw := nI_w ht hn
  clear kk h h3 ht hn
  refine nx1_ok C cut_law 1000 ?_
  simp only [w_law, ops_eq, xst_eq, call_eq, oK_eq, Option.toList_some, Option.toList_none, List.cons_append, List.nil_append, List.length_cons, List.length_nil, true_and, and_true, Nat.reduceAdd, call_eq, O_g_eq, O_s_eq, spG_eq, hj, hw]
  refine ⟨Nat.zero_le _, q, F', h1, by decide, q, (F'.now, M', false), h2, ?_, ?_⟩
  · exact fun _ => hk
  · exact fun z => (z rfl).elim
set_option maxRecDepth 100000 in
theorem lc_nightAt {E : En} {n : Nat} {xs : Nat → Int32} (C : CodOk E lW (cod_law n xs)) (hn : n ≤ 2048) {t : Nat} (ht : 4 * t + 4 ≤ n) {F : FT} {M : MT} {r0 : Nat} (h : Rel (r0 + RM) F M) (kk : ∀ F' M', Rel r0 F' M' → Gd E lW 830 [some (.ref 1003), some (.ref 0), some (.ref 148), some (.int (nI (4 * t)))] [] (F', (F'.now, M', false))) : Gd E lW 666 [some (.ref 1003), some (.ref 0), some (.ref 148), some (.int (nI (4 * t)))] [] (F, (F.now, M, false)) := by
  obtain ⟨q, F', M', h1, h2, h3⟩ := st_nightAt h (xs (4 * t + 1))
  have hk := kk F' M' h3
  have hj := nI_j t
  have hw := nI_w ht hn
  clear kk h h3 ht hn
  refine nx1_ok C cut_law 1000 ?_
  simp only [w_law, ops_eq, xst_eq, call_eq, oK_eq, Option.toList_some, Option.toList_none, List.cons_append, List.nil_append, List.length_cons, List.length_nil, true_and, and_true, Nat.reduceAdd, call_eq, O_g_eq, O_s_eq, spG_eq, hj, hw]
  refine ⟨Nat.zero_le _, q, F', h1, by decide, q, (F'.now, M', false), h2, ?_, ?_⟩
  · exact fun _ => hk
  · exact fun z => (z rfl).elim
set_option maxRecDepth 100000 in
theorem lc_eventAt {E : En} {n : Nat} {xs : Nat → Int32} (C : CodOk E lW (cod_law n xs)) (hn : n ≤ 2048) {t : Nat} (ht : 4 * t + 4 ≤ n) {F : FT} {M : MT} {r0 : Nat} (h : Rel (r0 + RM) F M) (kk : ∀ F' M', Rel r0 F' M' → Gd E lW 830 [some (.ref 1003), some (.ref 0), some (.ref 148), some (.int (nI (4 * t)))] [] (F', (F'.now, M', false))) : Gd E lW 689 [some (.ref 1003), some (.ref 0), some (.ref 148), some (.int (nI (4 * t)))] [] (F, (F.now, M, false)) := by
  obtain ⟨q, F', M', h1, h2, h3⟩ := st_eventAt h (xs (4 * t + 1)) (xs (4 * t + 2))
  have hk := kk F' M' h3
  have hj := nI_j t
  have hw := nI_w ht hn
  clear kk h h3 ht hn
  refine nx1_ok C cut_law 1000 ?_
  simp only [w_law, ops_eq, xst_eq, call_eq, oK_eq, Option.toList_some, Option.toList_none, List.cons_append, List.nil_append, List.length_cons, List.length_nil, true_and, and_true, Nat.reduceAdd, call_eq, O_g_eq, O_s_eq, spG_eq, hj, hw]
  refine ⟨Nat.zero_le _, q, F', h1, by decide, q, (F'.now, M', false), h2, ?_, ?_⟩
  · exact fun _ => hk
  · exact fun z => (z rfl).elim
set_option maxRecDepth 100000 in
theorem lc_count {E : En} {n : Nat} {xs : Nat → Int32} (C : CodOk E lW (cod_law n xs)) (hn : n ≤ 2048) {t : Nat} (ht : 4 * t + 4 ≤ n) {F : FT} {M : MT} {r0 : Nat} (h : Rel (r0 + RM) F M) (kk : ∀ F' M', Rel r0 F' M' → Gd E lW 830 [some (.ref 1003), some (.ref 0), some (.ref 148), some (.int (nI (4 * t)))] [] (F', (F'.now, M', false))) : Gd E lW 722 [some (.ref 1003), some (.ref 0), some (.ref 148), some (.int (nI (4 * t)))] [] (F, (F.now, M, false)) := by
  obtain ⟨q, F', M', h1, h2, h3⟩ := st_count h (xs (4 * t + 1))
  have hk := kk F' M' h3
  have hj := nI_j t
  have hw := nI_w ht hn
  clear kk h h3 ht hn
  refine nx1_ok C cut_law 1000 ?_
  simp only [w_law, ops_eq, xst_eq, call_eq, oK_eq, Option.toList_some, Option.toList_none, List.cons_append, List.nil_append, List.length_cons, List.length_nil, true_and, and_true, Nat.reduceAdd, call_eq, O_g_eq, O_s_eq, spG_eq, hj, hw]
  refine ⟨Nat.zero_le _, q, F', h1, by decide, q, (F'.now, M', false), h2, ?_, ?_⟩
  · exact fun _ => hk
  · exact fun z => (z rfl).elim
set_option maxRecDepth 100000 in
theorem lc_undo {E : En} {n : Nat} {xs : Nat → Int32} (C : CodOk E lW (cod_law n xs)) (hn : n ≤ 2048) {t : Nat} (ht : 4 * t + 4 ≤ n) {F : FT} {M : MT} {r0 : Nat} (h : Rel (r0 + RM) F M) (kk : ∀ F' M', Rel r0 F' M' → Gd E lW 830 [some (.ref 1003), some (.ref 0), some (.ref 148), some (.int (nI (4 * t)))] [] (F', (F'.now, M', false))) : Gd E lW 745 [some (.ref 1003), some (.ref 0), some (.ref 148), some (.int (nI (4 * t)))] [] (F, (F.now, M, false)) := by
  obtain ⟨q, F', M', h1, h2, h3⟩ := st_undo h 
  have hk := kk F' M' h3
  have hj := nI_j t
  have hw := nI_w ht hn
  clear kk h h3 ht hn
  refine nx1_ok C cut_law 1000 ?_
  simp only [w_law, ops_eq, xst_eq, call_eq, oK_eq, Option.toList_some, Option.toList_none, List.cons_append, List.nil_append, List.length_cons, List.length_nil, true_and, and_true, Nat.reduceAdd, call_eq, O_g_eq, O_s_eq, spG_eq, hj, hw]
  refine ⟨Nat.zero_le _, q, F', h1, by decide, q, (F'.now, M', false), h2, ?_, ?_⟩
  · exact fun _ => hk
  · exact fun z => (z rfl).elim
set_option maxRecDepth 100000 in
theorem lc_type {E : En} {n : Nat} {xs : Nat → Int32} (C : CodOk E lW (cod_law n xs)) (hn : n ≤ 2048) {t : Nat} (ht : 4 * t + 4 ≤ n) {F : FT} {M : MT} {r0 : Nat} (h : Rel (r0 + RM) F M) (kk : ∀ F' M', Rel r0 F' M' → Gd E lW 830 [some (.ref 1003), some (.ref 0), some (.ref 148), some (.int (nI (4 * t)))] [] (F', (F'.now, M', false))) : Gd E lW 758 [some (.ref 1003), some (.ref 0), some (.ref 148), some (.int (nI (4 * t)))] [] (F, (F.now, M, false)) := by
  obtain ⟨q, F', M', h1, h2, h3⟩ := st_type h (xs (4 * t + 1))
  have hk := kk F' M' h3
  have hj := nI_j t
  have hw := nI_w ht hn
  clear kk h h3 ht hn
  refine nx1_ok C cut_law 1000 ?_
  simp only [w_law, ops_eq, xst_eq, call_eq, oK_eq, Option.toList_some, Option.toList_none, List.cons_append, List.nil_append, List.length_cons, List.length_nil, true_and, and_true, Nat.reduceAdd, call_eq, O_g_eq, O_s_eq, spG_eq, hj, hw]
  refine ⟨Nat.zero_le _, q, F', h1, by decide, q, (F'.now, M', false), h2, ?_, ?_⟩
  · exact fun _ => hk
  · exact fun z => (z rfl).elim
set_option maxRecDepth 100000 in
theorem lc_clearText {E : En} {n : Nat} {xs : Nat → Int32} (C : CodOk E lW (cod_law n xs)) (hn : n ≤ 2048) {t : Nat} (ht : 4 * t + 4 ≤ n) {F : FT} {M : MT} {r0 : Nat} (h : Rel (r0 + RM) F M) (kk : ∀ F' M', Rel r0 F' M' → Gd E lW 830 [some (.ref 1003), some (.ref 0), some (.ref 148), some (.int (nI (4 * t)))] [] (F', (F'.now, M', false))) : Gd E lW 781 [some (.ref 1003), some (.ref 0), some (.ref 148), some (.int (nI (4 * t)))] [] (F, (F.now, M, false)) := by
  obtain ⟨q, F', M', h1, h2, h3⟩ := st_clearText h 
  have hk := kk F' M' h3
  have hj := nI_j t
  have hw := nI_w ht hn
  clear kk h h3 ht hn
  refine nx1_ok C cut_law 1000 ?_
  simp only [w_law, ops_eq, xst_eq, call_eq, oK_eq, Option.toList_some, Option.toList_none, List.cons_append, List.nil_append, List.length_cons, List.length_nil, true_and, and_true, Nat.reduceAdd, call_eq, O_g_eq, O_s_eq, spG_eq, hj, hw]
  refine ⟨Nat.zero_le _, q, F', h1, by decide, q, (F'.now, M', false), h2, ?_, ?_⟩
  · exact fun _ => hk
  · exact fun z => (z rfl).elim
set_option maxRecDepth 100000 in
theorem lc_fault {E : En} {n : Nat} {xs : Nat → Int32} (C : CodOk E lW (cod_law n xs)) (hn : n ≤ 2048) {t : Nat} (ht : 4 * t + 4 ≤ n) {F : FT} {M : MT} {r0 : Nat} (h : Rel (r0 + RM) F M) (kk : ∀ F' M', Rel r0 F' M' → Gd E lW 830 [some (.ref 1003), some (.ref 0), some (.ref 148), some (.int (nI (4 * t)))] [] (F', (F'.now, M', false))) : Gd E lW 794 [some (.ref 1003), some (.ref 0), some (.ref 148), some (.int (nI (4 * t)))] [] (F, (F.now, M, false)) := by
  obtain ⟨q, F', M', h1, h2, h3⟩ := st_fault h (xs (4 * t + 1))
  have hk := kk F' M' h3
  have hj := nI_j t
  have hw := nI_w ht hn
  clear kk h h3 ht hn
  refine nx1_ok C cut_law 1000 ?_
  simp only [w_law, ops_eq, xst_eq, call_eq, oK_eq, Option.toList_some, Option.toList_none, List.cons_append, List.nil_append, List.length_cons, List.length_nil, true_and, and_true, Nat.reduceAdd, call_eq, O_g_eq, O_s_eq, spG_eq, hj, hw]
  refine ⟨Nat.zero_le _, q, F', h1, by decide, q, (F'.now, M', false), h2, ?_, ?_⟩
  · exact fun _ => hk
  · exact fun z => (z rfl).elim
set_option maxRecDepth 100000 in
theorem lc_play {E : En} {n : Nat} {xs : Nat → Int32} (C : CodOk E lW (cod_law n xs)) (hn : n ≤ 2048) {t : Nat} (ht : 4 * t + 4 ≤ n) {F : FT} {M : MT} {r0 : Nat} (h : Rel (r0 + RM) F M) (kk : ∀ F' M', Rel r0 F' M' → Gd E lW 830 [some (.ref 1003), some (.ref 0), some (.ref 148), some (.int (nI (4 * t)))] [] (F', (F'.now, M', false))) : Gd E lW 817 [some (.ref 1003), some (.ref 0), some (.ref 148), some (.int (nI (4 * t)))] [] (F, (F.now, M, false)) := by
  obtain ⟨q, F', M', h1, h2, h3⟩ := st_play h 
  have hk := kk F' M' h3
  have hj := nI_j t
  have hw := nI_w ht hn
  clear kk h h3 ht hn
  refine nx1_ok C cut_law 1000 ?_
  simp only [w_law, ops_eq, xst_eq, call_eq, oK_eq, Option.toList_some, Option.toList_none, List.cons_append, List.nil_append, List.length_cons, List.length_nil, true_and, and_true, Nat.reduceAdd, call_eq, O_g_eq, O_s_eq, spG_eq, hj, hw]
  refine ⟨Nat.zero_le _, q, F', h1, by decide, q, (F'.now, M', false), h2, ?_, ?_⟩
  · exact fun _ => hk
  · exact fun z => (z rfl).elim
