theorem aW_len (q : QT) : (aW q).length = 5 := rfl
/-! ===== the reference: numbers, states that are sound, what only reads ===== -/
theorem cmp_eq : (∀ x y : Int64, (lg_cmp x y < 0) = (x < y)) ∧ (∀ x y : Int64, (0 < lg_cmp x y) = (y < x)) := by
  refine ⟨fun x y => propext ?_, fun x y => propext ?_⟩
  · unfold lg_cmp
    split
    · rename_i h
      exact ⟨fun q => absurd q (by decide), fun q => absurd (Int64.lt_trans h q) (Int64.lt_irrefl)⟩
    · split
      · rename_i h
        subst h
        exact ⟨fun q => absurd q (by decide), fun q => absurd q (Int64.lt_irrefl)⟩
      · rename_i h1 h2
        refine ⟨fun _ => ?_, fun _ => by decide⟩
        rw [gt_iff_lt, Int64.lt_iff_toInt_lt] at h1
        rw [Int64.lt_iff_toInt_lt]
        have h3 : x.toInt ≠ y.toInt := fun e => h2 (Int64.toInt_inj.mp e)
        omega
  · unfold lg_cmp
    split
    · rename_i h
      exact ⟨fun _ => h, fun _ => by decide⟩
    · rename_i h
      split
      · exact ⟨fun q => absurd q (by decide), fun q => absurd q h⟩
      · exact ⟨fun q => absurd q (by decide), fun q => absurd q h⟩
def inL (v a b : Int64) : Bool := decide (¬ v < a ∧ ¬ b < v)
theorem inL_eq (v a b : Int32) : inL v.toInt64 a.toInt64 b.toInt64 = inR v a b := by
  unfold inL inR
  simp only [Int64.lt_iff_toInt_lt, Int32.lt_iff_toInt_lt, Int32.toInt_toInt64]
def cod_X7_in : List (Nat × Op Unit) := [(0, O_lload 0 1), (1, O_lload 2 1), (2, O_lcmp), (3, O_if_lt 17), (6, O_lload 0 1), (7, O_lload 4 2), (9, O_lcmp), (10, O_if_gt 17), (13, O_int 1 1), (14, O_goto 18), (17, O_int 0 1), (18, O_zret)]
abbrev cut_X7_in : List Nat := []
set_option maxRecDepth 100000 in
theorem okc_X7_in {E : En} (F : Fx E RX7 cX7_in 6 0) (G : Fr E (some .boolean)) : CodOk E toU cod_X7_in := by
  unfold CodOk cod_X7_in
  refine List.forall_mem_cons.mpr ⟨ok_lload_n F dX7_in_0 rfl (by decide), ?_⟩
  refine List.forall_mem_cons.mpr ⟨ok_lload_n F dX7_in_1 rfl (by decide), ?_⟩
  refine List.forall_mem_cons.mpr ⟨ok_lcmp F dX7_in_2 (by decide), ?_⟩
  refine List.forall_mem_cons.mpr ⟨ok_if_lt F dX7_in_3 (by decide) (by decide) (by decide), ?_⟩
  refine List.forall_mem_cons.mpr ⟨ok_lload_n F dX7_in_6 rfl (by decide), ?_⟩
  refine List.forall_mem_cons.mpr ⟨ok_lload F dX7_in_7 (by decide), ?_⟩
  refine List.forall_mem_cons.mpr ⟨ok_lcmp F dX7_in_9 (by decide), ?_⟩
  refine List.forall_mem_cons.mpr ⟨ok_if_gt F dX7_in_10 (by decide) (by decide) (by decide), ?_⟩
  refine List.forall_mem_cons.mpr ⟨ok_iconst F dX7_in_13 (by decide) (by decide), ?_⟩
  refine List.forall_mem_cons.mpr ⟨ok_goto F dX7_in_14 (by decide) (by decide) (by decide), ?_⟩
  refine List.forall_mem_cons.mpr ⟨ok_iconst F dX7_in_17 (by decide) (by decide), ?_⟩
  refine List.forall_mem_cons.mpr ⟨ok_zret F G dX7_in_18 (by decide), ?_⟩
  exact fun _ h => absurd h List.not_mem_nil
set_option maxRecDepth 100000 in
theorem w_X7_in : (∀ (K : Kt Unit) (n : Nat) (L : xL) (st : List Value) (S : Unit), nx cod_X7_in cut_X7_in K (n + 1) 0 L st S = (O_lload 0 1) (nx cod_X7_in cut_X7_in K n) 0 L st S) ∧
  (∀ (K : Kt Unit) (n : Nat) (L : xL) (st : List Value) (S : Unit), nx cod_X7_in cut_X7_in K (n + 1) 1 L st S = (O_lload 2 1) (nx cod_X7_in cut_X7_in K n) 1 L st S) ∧
  (∀ (K : Kt Unit) (n : Nat) (L : xL) (st : List Value) (S : Unit), nx cod_X7_in cut_X7_in K (n + 1) 2 L st S = (O_lcmp) (nx cod_X7_in cut_X7_in K n) 2 L st S) ∧
  (∀ (K : Kt Unit) (n : Nat) (L : xL) (st : List Value) (S : Unit), nx cod_X7_in cut_X7_in K (n + 1) 3 L st S = (O_if_lt 17) (nx cod_X7_in cut_X7_in K n) 3 L st S) ∧
  (∀ (K : Kt Unit) (n : Nat) (L : xL) (st : List Value) (S : Unit), nx cod_X7_in cut_X7_in K (n + 1) 6 L st S = (O_lload 0 1) (nx cod_X7_in cut_X7_in K n) 6 L st S) ∧
  (∀ (K : Kt Unit) (n : Nat) (L : xL) (st : List Value) (S : Unit), nx cod_X7_in cut_X7_in K (n + 1) 7 L st S = (O_lload 4 2) (nx cod_X7_in cut_X7_in K n) 7 L st S) ∧
  (∀ (K : Kt Unit) (n : Nat) (L : xL) (st : List Value) (S : Unit), nx cod_X7_in cut_X7_in K (n + 1) 9 L st S = (O_lcmp) (nx cod_X7_in cut_X7_in K n) 9 L st S) ∧
  (∀ (K : Kt Unit) (n : Nat) (L : xL) (st : List Value) (S : Unit), nx cod_X7_in cut_X7_in K (n + 1) 10 L st S = (O_if_gt 17) (nx cod_X7_in cut_X7_in K n) 10 L st S) ∧
  (∀ (K : Kt Unit) (n : Nat) (L : xL) (st : List Value) (S : Unit), nx cod_X7_in cut_X7_in K (n + 1) 13 L st S = (O_int 1 1) (nx cod_X7_in cut_X7_in K n) 13 L st S) ∧
  (∀ (K : Kt Unit) (n : Nat) (L : xL) (st : List Value) (S : Unit), nx cod_X7_in cut_X7_in K (n + 1) 14 L st S = (O_goto 18) (nx cod_X7_in cut_X7_in K n) 14 L st S) ∧
  (∀ (K : Kt Unit) (n : Nat) (L : xL) (st : List Value) (S : Unit), nx cod_X7_in cut_X7_in K (n + 1) 17 L st S = (O_int 0 1) (nx cod_X7_in cut_X7_in K n) 17 L st S) ∧
  (∀ (K : Kt Unit) (n : Nat) (L : xL) (st : List Value) (S : Unit), nx cod_X7_in cut_X7_in K (n + 1) 18 L st S = (O_zret) (nx cod_X7_in cut_X7_in K n) 18 L st S) ∧
  (∀ (K : Kt Unit) (n : Nat) (L : xL) (st : List Value) (S : Unit), nx cod_X7_in cut_X7_in K (n + 1) 100000 L st S = K 100000 L st S) := by
  repeat' apply And.intro
  all_goals (intros; rfl)
set_option maxRecDepth 100000 in
theorem mk_X7_in {P P' : Unit} {r : Option Value} {p0 : Int64} {p1 : Int64} {p2 : Int64} (body : ∀ E : En, CodOk E toU cod_X7_in → Gd E toU 100000 [] r.toList P' → Gd E toU 0 [some (.long p0), none, some (.long p1), none, some (.long p2), none] [] P) : Con yX7_in cX7_in 6 (some .boolean) 0 toU [.long p0, .long p1, .long p2] P r P' :=
  Con.of (by decide) rfl rfl (Nat.le_of_ble_eq_true rfl) (fun E F G hr => body E (okc_X7_in F G) hr)
set_option maxRecDepth 10000 in
theorem con_X7_in (S : Unit) (v : Int64) (a : Int64) (b : Int64) : Con yX7_in cX7_in 6 (some .boolean) 0 toU [.long v, .long a, .long b] S (some (.int (bI (inL v a b)))) (S) := by
  refine mk_X7_in (fun E C hr => ?_)
  (refine nx_ok C (cuts := cut_X7_in) 1000 _ _ _ _ ?_; simp only [w_X7_in, ops_eq, xst_eq, call_eq, oK_eq, Option.toList_some, Option.toList_none, List.cons_append, List.nil_append, List.length_cons, List.length_nil, true_and, and_true, Nat.reduceAdd, call_eq, bI_eq, cmp_eq])
  ((repeat' (with_reducible first | apply And.intro | intro _)) <;> simp_all [inL, bI])
def sp_X7_in : Sp Unit := fun av S K => match av with
  | [.long v, .long a, .long b] => K (some (.int (bI (inL v a b)))) (S)
  | _ => False
theorem se_X7_in (v : Int64) (a : Int64) (b : Int64) (S : Unit) (K : Option Value → Unit → Prop) : sp_X7_in [.long v, .long a, .long b] S K = (K (some (.int (bI (inL v a b)))) (S)) := rfl
theorem spok_X7_in : SpOk yX7_in cX7_in 6 (some .boolean) 0 toU sp_X7_in := by
  intro av S K h
  unfold sp_X7_in at h
  split at h
  · rename_i v a b; exact ⟨some (.int (bI (inL v a b))), S, trivial, con_X7_in S v a b, h⟩
  · exact h.elim
def wit (v a b : Int32) : Int32 := if v < a then a else if b < v then b else v
theorem wit_hold {v a b : Int32} (h : ¬ b < a) : wit v a b = hold v a b := by
  unfold wit hold
  simp only [Int32.lt_iff_toInt_lt] at *
  (repeat' split) <;> first | rfl | (apply Int32.toInt_inj.mp; omega) | omega
def cod_X7_within : List (Nat × Op Unit) := [(0, O_iload 0 1), (1, O_iload 1 1), (2, O_icmp_ge 9), (5, O_iload 1 1), (6, O_goto 19), (9, O_iload 0 1), (10, O_iload 2 1), (11, O_icmp_le 18), (14, O_iload 2 1), (15, O_goto 19), (18, O_iload 0 1), (19, O_iret)]
abbrev cut_X7_within : List Nat := []
set_option maxRecDepth 100000 in
theorem okc_X7_within {E : En} (F : Fx E RX7 cX7_within 3 0) (G : Fr E (some .int)) : CodOk E toU cod_X7_within := by
  unfold CodOk cod_X7_within
  refine List.forall_mem_cons.mpr ⟨ok_iload_n F dX7_within_0 rfl (by decide), ?_⟩
  refine List.forall_mem_cons.mpr ⟨ok_iload_n F dX7_within_1 rfl (by decide), ?_⟩
  refine List.forall_mem_cons.mpr ⟨ok_icmp_ge F dX7_within_2 (by decide) (by decide) (by decide), ?_⟩
  refine List.forall_mem_cons.mpr ⟨ok_iload_n F dX7_within_5 rfl (by decide), ?_⟩
  refine List.forall_mem_cons.mpr ⟨ok_goto F dX7_within_6 (by decide) (by decide) (by decide), ?_⟩
  refine List.forall_mem_cons.mpr ⟨ok_iload_n F dX7_within_9 rfl (by decide), ?_⟩
  refine List.forall_mem_cons.mpr ⟨ok_iload_n F dX7_within_10 rfl (by decide), ?_⟩
  refine List.forall_mem_cons.mpr ⟨ok_icmp_le F dX7_within_11 (by decide) (by decide) (by decide), ?_⟩
  refine List.forall_mem_cons.mpr ⟨ok_iload_n F dX7_within_14 rfl (by decide), ?_⟩
  refine List.forall_mem_cons.mpr ⟨ok_goto F dX7_within_15 (by decide) (by decide) (by decide), ?_⟩
  refine List.forall_mem_cons.mpr ⟨ok_iload_n F dX7_within_18 rfl (by decide), ?_⟩
  refine List.forall_mem_cons.mpr ⟨ok_iret F G dX7_within_19 (by decide), ?_⟩
  exact fun _ h => absurd h List.not_mem_nil
set_option maxRecDepth 100000 in
theorem w_X7_within : (∀ (K : Kt Unit) (n : Nat) (L : xL) (st : List Value) (S : Unit), nx cod_X7_within cut_X7_within K (n + 1) 0 L st S = (O_iload 0 1) (nx cod_X7_within cut_X7_within K n) 0 L st S) ∧
  (∀ (K : Kt Unit) (n : Nat) (L : xL) (st : List Value) (S : Unit), nx cod_X7_within cut_X7_within K (n + 1) 1 L st S = (O_iload 1 1) (nx cod_X7_within cut_X7_within K n) 1 L st S) ∧
  (∀ (K : Kt Unit) (n : Nat) (L : xL) (st : List Value) (S : Unit), nx cod_X7_within cut_X7_within K (n + 1) 2 L st S = (O_icmp_ge 9) (nx cod_X7_within cut_X7_within K n) 2 L st S) ∧
  (∀ (K : Kt Unit) (n : Nat) (L : xL) (st : List Value) (S : Unit), nx cod_X7_within cut_X7_within K (n + 1) 5 L st S = (O_iload 1 1) (nx cod_X7_within cut_X7_within K n) 5 L st S) ∧
  (∀ (K : Kt Unit) (n : Nat) (L : xL) (st : List Value) (S : Unit), nx cod_X7_within cut_X7_within K (n + 1) 6 L st S = (O_goto 19) (nx cod_X7_within cut_X7_within K n) 6 L st S) ∧
  (∀ (K : Kt Unit) (n : Nat) (L : xL) (st : List Value) (S : Unit), nx cod_X7_within cut_X7_within K (n + 1) 9 L st S = (O_iload 0 1) (nx cod_X7_within cut_X7_within K n) 9 L st S) ∧
  (∀ (K : Kt Unit) (n : Nat) (L : xL) (st : List Value) (S : Unit), nx cod_X7_within cut_X7_within K (n + 1) 10 L st S = (O_iload 2 1) (nx cod_X7_within cut_X7_within K n) 10 L st S) ∧
  (∀ (K : Kt Unit) (n : Nat) (L : xL) (st : List Value) (S : Unit), nx cod_X7_within cut_X7_within K (n + 1) 11 L st S = (O_icmp_le 18) (nx cod_X7_within cut_X7_within K n) 11 L st S) ∧
  (∀ (K : Kt Unit) (n : Nat) (L : xL) (st : List Value) (S : Unit), nx cod_X7_within cut_X7_within K (n + 1) 14 L st S = (O_iload 2 1) (nx cod_X7_within cut_X7_within K n) 14 L st S) ∧
  (∀ (K : Kt Unit) (n : Nat) (L : xL) (st : List Value) (S : Unit), nx cod_X7_within cut_X7_within K (n + 1) 15 L st S = (O_goto 19) (nx cod_X7_within cut_X7_within K n) 15 L st S) ∧
  (∀ (K : Kt Unit) (n : Nat) (L : xL) (st : List Value) (S : Unit), nx cod_X7_within cut_X7_within K (n + 1) 18 L st S = (O_iload 0 1) (nx cod_X7_within cut_X7_within K n) 18 L st S) ∧
  (∀ (K : Kt Unit) (n : Nat) (L : xL) (st : List Value) (S : Unit), nx cod_X7_within cut_X7_within K (n + 1) 19 L st S = (O_iret) (nx cod_X7_within cut_X7_within K n) 19 L st S) ∧
  (∀ (K : Kt Unit) (n : Nat) (L : xL) (st : List Value) (S : Unit), nx cod_X7_within cut_X7_within K (n + 1) 100000 L st S = K 100000 L st S) := by
  repeat' apply And.intro
  all_goals (intros; rfl)
set_option maxRecDepth 100000 in
theorem mk_X7_within {P P' : Unit} {r : Option Value} {p0 : Int32} {p1 : Int32} {p2 : Int32} (body : ∀ E : En, CodOk E toU cod_X7_within → Gd E toU 100000 [] r.toList P' → Gd E toU 0 [some (.int p0), some (.int p1), some (.int p2)] [] P) : Con yX7_within cX7_within 3 (some .int) 0 toU [.int p0, .int p1, .int p2] P r P' :=
  Con.of (by decide) rfl rfl (Nat.le_of_ble_eq_true rfl) (fun E F G hr => body E (okc_X7_within F G) hr)
set_option maxRecDepth 10000 in
theorem con_X7_within (S : Unit) (v : Int32) (a : Int32) (b : Int32) : Con yX7_within cX7_within 3 (some .int) 0 toU [.int v, .int a, .int b] S (some (.int (wit v a b))) (S) := by
  refine mk_X7_within (fun E C hr => ?_)
  (refine nx_ok C (cuts := cut_X7_within) 1000 _ _ _ _ ?_; simp only [w_X7_within, ops_eq, xst_eq, call_eq, oK_eq, Option.toList_some, Option.toList_none, List.cons_append, List.nil_append, List.length_cons, List.length_nil, true_and, and_true, Nat.reduceAdd, call_eq])
  ((repeat' (with_reducible first | apply And.intro | intro _)) <;> simp_all [wit])
def sp_X7_within : Sp Unit := fun av S K => match av with
  | [.int v, .int a, .int b] => K (some (.int (wit v a b))) (S)
  | _ => False
theorem se_X7_within (v : Int32) (a : Int32) (b : Int32) (S : Unit) (K : Option Value → Unit → Prop) : sp_X7_within [.int v, .int a, .int b] S K = (K (some (.int (wit v a b))) (S)) := rfl
theorem spok_X7_within : SpOk yX7_within cX7_within 3 (some .int) 0 toU sp_X7_within := by
  intro av S K h
  unfold sp_X7_within at h
  split at h
  · rename_i v a b; exact ⟨some (.int (wit v a b)), S, trivial, con_X7_within S v a b, h⟩
  · exact h.elim
def rng (x : Int32) (a b : Int) : Prop := a ≤ x.toInt ∧ x.toInt ≤ b
theorem rng_nI {x : Int32} {a b : Int} (h : rng x a b) (ha : 0 ≤ a) : ∃ n : Nat, x = nI n ∧ (a ≤ (n : Int) ∧ (n : Int) ≤ b) ∧ n < 2147483648 := by
  have h1 := x.toInt_lt
  refine ⟨x.toInt.toNat, ?_, ?_, ?_⟩
  · apply Int32.toInt_inj.mp
    obtain ⟨h2, h3⟩ := h
    rw [nI_toInt (by omega)]
    omega
  · obtain ⟨h2, h3⟩ := h
    omega
  · omega
def PT.rowIn (S : PT) (i : Nat) : Prop := rng (S.shutoffs i) 0 2000 ∧ rng (S.steeps i) 1 1000 ∧ rng (S.speeds i) 0 1000 ∧ b01 (S.inService i) ∧ (S.speeds i = 0 → S.since i = 0)
def PT.rowOut (S : PT) (i : Nat) : Prop := ∀ w, w < 8 → S.get w i = 0
def PT.vok (S : PT) : Prop := S.vrb = -1 ∨ ∃ v, v < S.n ∧ S.vrb = nI v ∧ 0 < S.speeds v ∧ ¬ S.kinds v = 0
def PT.inv (S : PT) : Prop := S.ok ∧ (∀ i, i < S.n → S.rowIn i) ∧ (∀ i, S.n ≤ i → i < 6 → S.rowOut i) ∧ S.vok
def ZT.inv (S : ZT) : Prop := S.ok ∧ S.bits ∧ (∀ i, S.n ≤ i → i < 8 → S.demands i = 0 ∧ S.isOpen i = 0) ∧ ∀ k, k < S.m → S.has (S.pzones k) = true
theorem PT.has_n {S : PT} {p : Int32} (hs : S.ok) (h : S.has p = true) : ∃ i, i < S.n ∧ p = nI i ∧ p.toNatClampNeg = i := by
  simp only [PT.has, decide_eq_true_eq] at h
  obtain ⟨i, hi, e⟩ := isN_in hs h.1 h.2
  have := hs.2
  exact ⟨i, hi, e, by rw [e]; exact nI_clamp (by omega)⟩
theorem PT.n_has {S : PT} {i : Nat} (hs : S.ok) (h : i < S.n) : S.has (nI i) = true := by
  have hx := ixs hs h
  simp only [PT.has, decide_eq_true_eq]
  exact ⟨hx.2.2.2.2.1, hx.2.2.1⟩
theorem get_eq : (∀ (S : PT) (p : Nat), S.get 0 p = S.kinds p) ∧ (∀ (S : PT) (p : Nat), S.get 1 p = S.shutoffs p) ∧ (∀ (S : PT) (p : Nat), S.get 2 p = S.steeps p) ∧ (∀ (S : PT) (p : Nat), S.get 3 p = S.inService p) ∧ (∀ (S : PT) (p : Nat), S.get 4 p = S.speeds p) ∧ (∀ (S : PT) (p : Nat), S.get 5 p = S.minutes p) ∧ (∀ (S : PT) (p : Nat), S.get 6 p = S.since p) ∧ (∀ (S : PT) (p : Nat), S.get 7 p = S.starts p) := ⟨fun _ _ => rfl, fun _ _ => rfl, fun _ _ => rfl, fun _ _ => rfl, fun _ _ => rfl, fun _ _ => rfl, fun _ _ => rfl, fun _ _ => rfl⟩
theorem put_eq : (∀ (S : PT) (p : Nat) (x : Int32), S.put 0 p x = S.sKinds (upd S.kinds p x)) ∧ (∀ (S : PT) (p : Nat) (x : Int32), S.put 1 p x = S.sShutoffs (upd S.shutoffs p x)) ∧ (∀ (S : PT) (p : Nat) (x : Int32), S.put 2 p x = S.sSteeps (upd S.steeps p x)) ∧ (∀ (S : PT) (p : Nat) (x : Int32), S.put 3 p x = S.sInService (upd S.inService p x)) ∧ (∀ (S : PT) (p : Nat) (x : Int32), S.put 4 p x = S.sSpeeds (upd S.speeds p x)) ∧ (∀ (S : PT) (p : Nat) (x : Int32), S.put 5 p x = S.sMinutes (upd S.minutes p x)) ∧ (∀ (S : PT) (p : Nat) (x : Int32), S.put 6 p x = S.sSince (upd S.since p x)) ∧ (∀ (S : PT) (p : Nat) (x : Int32), S.put 7 p x = S.sStarts (upd S.starts p x)) := ⟨fun _ _ _ => rfl, fun _ _ _ => rfl, fun _ _ _ => rfl, fun _ _ _ => rfl, fun _ _ _ => rfl, fun _ _ _ => rfl, fun _ _ _ => rfl, fun _ _ _ => rfl⟩
/-- a place of the array, counted -/
theorem at_pump {p w : Int32} (hp : vp_in p 6) (hw : vp_in w 8) : ∃ i k, i < 6 ∧ k < 8 ∧ p.toNatClampNeg = i ∧ w.toNatClampNeg = k ∧ vp_in (39 + 8 * p + w) 170 ∧ (39 + 8 * p + w).toNatClampNeg = 39 + 8 * i + k := by
  obtain ⟨i, hi, rfl⟩ := vp_in_of hp (by omega)
  obtain ⟨k, hk, rfl⟩ := vp_in_of hw (by omega)
  have e : (39 : Int32) + 8 * nI i + nI k = nI (39 + 8 * i + k) := by
    rw [show (39 : Int32) = nI 39 from rfl, show (8 : Int32) = nI 8 from rfl, pk_mul, nI_add, nI_add]
  refine ⟨i, k, hi, hk, nI_clamp (by omega), nI_clamp (by omega), ?_, ?_⟩
  · rw [e]; exact vp_in_nI (by omega) (by omega)
  · rw [e]; exact nI_clamp (by omega)
theorem abs_pump (S : ST) {i k : Nat} (hi : i < 6) (hk : k < 8) : abs S (39 + 8 * i + k) = S.P.get k i := by
  unfold abs blk
  rw [if_neg (by omega), if_neg (by omega), if_pos (by omega)]
  unfold PT.row
  rw [show (39 + 8 * i + k - 39) % 8 = k by omega, show (39 + 8 * i + k - 39) / 8 = i by omega]
theorem wr_pump (S : ST) {i k : Nat} (hi : i < 6) (hk : k < 8) (x : Int32) : wr S (39 + 8 * i + k) x = S.sP (S.P.put k i x) := by
  unfold wr
  rw [if_neg (by omega), if_neg (by omega), if_pos (by omega)]
  rw [show (39 + 8 * i + k - 39) % 8 = k by omega, show (39 + 8 * i + k - 39) / 8 = i by omega]
theorem at_sett {w : Int32} (hw : vp_in w 19) (S : ST) : vp_in (20 + w) 170 ∧ abs S (20 + w).toNatClampNeg = S.settings w.toNatClampNeg := by
  obtain ⟨k, hk, rfl⟩ := vp_in_of hw (by omega)
  have e : (20 : Int32) + nI k = nI (20 + k) := by rw [show (20 : Int32) = nI 20 from rfl, nI_add]
  rw [e, nI_clamp (by omega), nI_clamp (by omega)]
  refine ⟨vp_in_nI (by omega) (by omega), ?_⟩
  unfold abs blk
  rw [if_neg (by omega), if_pos (by omega), show 20 + k - 20 = k by omega]
theorem flX7_7 : fldOk RX7 7 7 0 = true := by decide +kernel
def cod_X7_setting : List (Nat × Op QT) := [(0, O_aload 0 1), (1, O_getf aW 7 0), (4, O_int 20 2), (6, O_iload 1 1), (7, O_iadd), (8, O_ald aW 0), (9, O_iret)]
abbrev cut_X7_setting : List Nat := []
set_option maxRecDepth 100000 in
theorem okc_X7_setting {E : En} (F : Fx E RX7 cX7_setting 2 0) (G : Fr E (some .int)) : CodOk E aW cod_X7_setting := by
  unfold CodOk cod_X7_setting
  refine List.forall_mem_cons.mpr ⟨ok_aload_n F dX7_setting_0 rfl (by decide), ?_⟩
  refine List.forall_mem_cons.mpr ⟨ok_getf F flX7_7 dX7_setting_1 (by decide), ?_⟩
  refine List.forall_mem_cons.mpr ⟨ok_bipush F dX7_setting_4 (by decide) (by decide), ?_⟩
  refine List.forall_mem_cons.mpr ⟨ok_iload_n F dX7_setting_6 rfl (by decide), ?_⟩
  refine List.forall_mem_cons.mpr ⟨ok_iadd F dX7_setting_7 (by decide), ?_⟩
  refine List.forall_mem_cons.mpr ⟨ok_iald F dX7_setting_8 (by decide), ?_⟩
  refine List.forall_mem_cons.mpr ⟨ok_iret F G dX7_setting_9 (by decide), ?_⟩
  exact fun _ h => absurd h List.not_mem_nil
set_option maxRecDepth 100000 in
theorem w_X7_setting : (∀ (K : Kt QT) (n : Nat) (L : xL) (st : List Value) (S : QT), nx cod_X7_setting cut_X7_setting K (n + 1) 0 L st S = (O_aload 0 1) (nx cod_X7_setting cut_X7_setting K n) 0 L st S) ∧
  (∀ (K : Kt QT) (n : Nat) (L : xL) (st : List Value) (S : QT), nx cod_X7_setting cut_X7_setting K (n + 1) 1 L st S = (O_getf aW 7 0) (nx cod_X7_setting cut_X7_setting K n) 1 L st S) ∧
  (∀ (K : Kt QT) (n : Nat) (L : xL) (st : List Value) (S : QT), nx cod_X7_setting cut_X7_setting K (n + 1) 4 L st S = (O_int 20 2) (nx cod_X7_setting cut_X7_setting K n) 4 L st S) ∧
  (∀ (K : Kt QT) (n : Nat) (L : xL) (st : List Value) (S : QT), nx cod_X7_setting cut_X7_setting K (n + 1) 6 L st S = (O_iload 1 1) (nx cod_X7_setting cut_X7_setting K n) 6 L st S) ∧
  (∀ (K : Kt QT) (n : Nat) (L : xL) (st : List Value) (S : QT), nx cod_X7_setting cut_X7_setting K (n + 1) 7 L st S = (O_iadd) (nx cod_X7_setting cut_X7_setting K n) 7 L st S) ∧
  (∀ (K : Kt QT) (n : Nat) (L : xL) (st : List Value) (S : QT), nx cod_X7_setting cut_X7_setting K (n + 1) 8 L st S = (O_ald aW 0) (nx cod_X7_setting cut_X7_setting K n) 8 L st S) ∧
  (∀ (K : Kt QT) (n : Nat) (L : xL) (st : List Value) (S : QT), nx cod_X7_setting cut_X7_setting K (n + 1) 9 L st S = (O_iret) (nx cod_X7_setting cut_X7_setting K n) 9 L st S) ∧
  (∀ (K : Kt QT) (n : Nat) (L : xL) (st : List Value) (S : QT), nx cod_X7_setting cut_X7_setting K (n + 1) 100000 L st S = K 100000 L st S) := by
  repeat' apply And.intro
  all_goals (intros; rfl)
set_option maxRecDepth 100000 in
theorem mk_X7_setting {P P' : QT} {r : Option Value} {p0 : Int32} (body : ∀ E : En, CodOk E aW cod_X7_setting → Gd E aW 100000 [] r.toList P' → Gd E aW 0 [some (.ref 0), some (.int p0)] [] P) : Con yX7_setting cX7_setting 2 (some .int) 0 aW [.ref 0, .int p0] P r P' :=
  Con.of (by decide) ((aW_len P').trans (aW_len P).symm) rfl (Nat.le_of_ble_eq_true rfl) (fun E F G hr => body E (okc_X7_setting F G) hr)
set_option maxRecDepth 10000 in
theorem con_X7_setting (S : ST) (M : MT) (fl : Bool) (w : Int32) (hp : vp_in w 19) : Con yX7_setting cX7_setting 2 (some .int) 0 aW [.ref 0, .int w] (S, M, fl) (some (.int (S.settings w.toNatClampNeg))) ((S, M, fl)) := by
  refine mk_X7_setting (fun E C hr => ?_)
  have hx := at_sett hp S
  (refine nx_ok C (cuts := cut_X7_setting) 1000 _ _ _ _ ?_; simp only [w_X7_setting, ops_eq, xst_eq, call_eq, oK_eq, Option.toList_some, Option.toList_none, List.cons_append, List.nil_append, List.length_cons, List.length_nil, true_and, and_true, Nat.reduceAdd, aW_F, aW_A, aW_P, aW_w, abs_eq, O_asti_eq, v170, cl_eq, ST_id, MT_gs, ST_gs, PT_gs, ZT_gs, NT_gs, ET_gs, hx])
  ((repeat' (with_reducible first | apply And.intro | intro _)) <;> simp_all [ST_id, MT_gs, ST_gs, PT_gs, ZT_gs, NT_gs, ET_gs])
def spc_X7_setting (S : ST) (M : MT) (fl : Bool) (w : Int32) (K : Option Value → QT → Prop) : Prop := (vp_in w 19) ∧ K (some (.int (S.settings w.toNatClampNeg))) ((S, M, fl))
def sp_X7_setting : Sp QT := fun av q K => match av with
  | [.ref 0, .int w] => spc_X7_setting q.1 q.2.1 q.2.2 w K
  | _ => False
theorem se_X7_setting (S : ST) (M : MT) (fl : Bool) (w : Int32) (K : Option Value → QT → Prop) : sp_X7_setting [.ref 0, .int w] (S, M, fl) K = ((vp_in w 19) ∧ K (some (.int (S.settings w.toNatClampNeg))) ((S, M, fl))) := rfl
theorem spok_X7_setting : SpOk yX7_setting cX7_setting 2 (some .int) 0 aW sp_X7_setting := by
  intro av q K h
  unfold sp_X7_setting at h
  split at h
  · rename_i w; refine ⟨_, _, ?_, con_X7_setting q.1 q.2.1 q.2.2 w h.1, h.2⟩; trivial
  · exact h.elim
def cod_X7_of : List (Nat × Op QT) := [(0, O_aload 0 1), (1, O_getf aW 7 0), (4, O_int 39 2), (6, O_int 8 2), (8, O_iload 1 1), (9, O_imul), (10, O_iadd), (11, O_iload 2 1), (12, O_iadd), (13, O_ald aW 0), (14, O_iret)]
abbrev cut_X7_of : List Nat := []
set_option maxRecDepth 100000 in
theorem okc_X7_of {E : En} (F : Fx E RX7 cX7_of 3 0) (G : Fr E (some .int)) : CodOk E aW cod_X7_of := by
  unfold CodOk cod_X7_of
  refine List.forall_mem_cons.mpr ⟨ok_aload_n F dX7_of_0 rfl (by decide), ?_⟩
  refine List.forall_mem_cons.mpr ⟨ok_getf F flX7_7 dX7_of_1 (by decide), ?_⟩
  refine List.forall_mem_cons.mpr ⟨ok_bipush F dX7_of_4 (by decide) (by decide), ?_⟩
  refine List.forall_mem_cons.mpr ⟨ok_bipush F dX7_of_6 (by decide) (by decide), ?_⟩
  refine List.forall_mem_cons.mpr ⟨ok_iload_n F dX7_of_8 rfl (by decide), ?_⟩
  refine List.forall_mem_cons.mpr ⟨ok_imul F dX7_of_9 (by decide), ?_⟩
  refine List.forall_mem_cons.mpr ⟨ok_iadd F dX7_of_10 (by decide), ?_⟩
  refine List.forall_mem_cons.mpr ⟨ok_iload_n F dX7_of_11 rfl (by decide), ?_⟩
  refine List.forall_mem_cons.mpr ⟨ok_iadd F dX7_of_12 (by decide), ?_⟩
  refine List.forall_mem_cons.mpr ⟨ok_iald F dX7_of_13 (by decide), ?_⟩
  refine List.forall_mem_cons.mpr ⟨ok_iret F G dX7_of_14 (by decide), ?_⟩
  exact fun _ h => absurd h List.not_mem_nil
set_option maxRecDepth 100000 in
theorem w_X7_of : (∀ (K : Kt QT) (n : Nat) (L : xL) (st : List Value) (S : QT), nx cod_X7_of cut_X7_of K (n + 1) 0 L st S = (O_aload 0 1) (nx cod_X7_of cut_X7_of K n) 0 L st S) ∧
  (∀ (K : Kt QT) (n : Nat) (L : xL) (st : List Value) (S : QT), nx cod_X7_of cut_X7_of K (n + 1) 1 L st S = (O_getf aW 7 0) (nx cod_X7_of cut_X7_of K n) 1 L st S) ∧
  (∀ (K : Kt QT) (n : Nat) (L : xL) (st : List Value) (S : QT), nx cod_X7_of cut_X7_of K (n + 1) 4 L st S = (O_int 39 2) (nx cod_X7_of cut_X7_of K n) 4 L st S) ∧
  (∀ (K : Kt QT) (n : Nat) (L : xL) (st : List Value) (S : QT), nx cod_X7_of cut_X7_of K (n + 1) 6 L st S = (O_int 8 2) (nx cod_X7_of cut_X7_of K n) 6 L st S) ∧
  (∀ (K : Kt QT) (n : Nat) (L : xL) (st : List Value) (S : QT), nx cod_X7_of cut_X7_of K (n + 1) 8 L st S = (O_iload 1 1) (nx cod_X7_of cut_X7_of K n) 8 L st S) ∧
  (∀ (K : Kt QT) (n : Nat) (L : xL) (st : List Value) (S : QT), nx cod_X7_of cut_X7_of K (n + 1) 9 L st S = (O_imul) (nx cod_X7_of cut_X7_of K n) 9 L st S) ∧
  (∀ (K : Kt QT) (n : Nat) (L : xL) (st : List Value) (S : QT), nx cod_X7_of cut_X7_of K (n + 1) 10 L st S = (O_iadd) (nx cod_X7_of cut_X7_of K n) 10 L st S) ∧
  (∀ (K : Kt QT) (n : Nat) (L : xL) (st : List Value) (S : QT), nx cod_X7_of cut_X7_of K (n + 1) 11 L st S = (O_iload 2 1) (nx cod_X7_of cut_X7_of K n) 11 L st S) ∧
  (∀ (K : Kt QT) (n : Nat) (L : xL) (st : List Value) (S : QT), nx cod_X7_of cut_X7_of K (n + 1) 12 L st S = (O_iadd) (nx cod_X7_of cut_X7_of K n) 12 L st S) ∧
  (∀ (K : Kt QT) (n : Nat) (L : xL) (st : List Value) (S : QT), nx cod_X7_of cut_X7_of K (n + 1) 13 L st S = (O_ald aW 0) (nx cod_X7_of cut_X7_of K n) 13 L st S) ∧
  (∀ (K : Kt QT) (n : Nat) (L : xL) (st : List Value) (S : QT), nx cod_X7_of cut_X7_of K (n + 1) 14 L st S = (O_iret) (nx cod_X7_of cut_X7_of K n) 14 L st S) ∧
  (∀ (K : Kt QT) (n : Nat) (L : xL) (st : List Value) (S : QT), nx cod_X7_of cut_X7_of K (n + 1) 100000 L st S = K 100000 L st S) := by
  repeat' apply And.intro
  all_goals (intros; rfl)
set_option maxRecDepth 100000 in
theorem mk_X7_of {P P' : QT} {r : Option Value} {p0 : Int32} {p1 : Int32} (body : ∀ E : En, CodOk E aW cod_X7_of → Gd E aW 100000 [] r.toList P' → Gd E aW 0 [some (.ref 0), some (.int p0), some (.int p1)] [] P) : Con yX7_of cX7_of 3 (some .int) 0 aW [.ref 0, .int p0, .int p1] P r P' :=
  Con.of (by decide) ((aW_len P').trans (aW_len P).symm) rfl (Nat.le_of_ble_eq_true rfl) (fun E F G hr => body E (okc_X7_of F G) hr)
set_option maxRecDepth 10000 in
theorem con_X7_of (S : ST) (M : MT) (fl : Bool) (p : Int32) (w : Int32) (hp : vp_in p 6 ∧ vp_in w 8) : Con yX7_of cX7_of 3 (some .int) 0 aW [.ref 0, .int p, .int w] (S, M, fl) (some (.int (S.P.get w.toNatClampNeg p.toNatClampNeg))) ((S, M, fl)) := by
  refine mk_X7_of (fun E C hr => ?_)
  obtain ⟨i, k, hi, hk, e1, e2, e3, e4⟩ := at_pump hp.1 hp.2
  have e5 := abs_pump S hi hk
  rw [e1, e2] at hr
  (refine nx_ok C (cuts := cut_X7_of) 1000 _ _ _ _ ?_; simp only [w_X7_of, ops_eq, xst_eq, call_eq, oK_eq, Option.toList_some, Option.toList_none, List.cons_append, List.nil_append, List.length_cons, List.length_nil, true_and, and_true, Nat.reduceAdd, aW_F, aW_A, aW_P, aW_w, abs_eq, O_asti_eq, v170, cl_eq, ST_id, MT_gs, ST_gs, PT_gs, ZT_gs, NT_gs, ET_gs, e3, e4, e5])
  ((repeat' (with_reducible first | apply And.intro | intro _)) <;> simp_all [ST_id, MT_gs, ST_gs, PT_gs, ZT_gs, NT_gs, ET_gs])
def spc_X7_of (S : ST) (M : MT) (fl : Bool) (p : Int32) (w : Int32) (K : Option Value → QT → Prop) : Prop := (vp_in p 6 ∧ vp_in w 8) ∧ K (some (.int (S.P.get w.toNatClampNeg p.toNatClampNeg))) ((S, M, fl))
def sp_X7_of : Sp QT := fun av q K => match av with
  | [.ref 0, .int p, .int w] => spc_X7_of q.1 q.2.1 q.2.2 p w K
  | _ => False
theorem se_X7_of (S : ST) (M : MT) (fl : Bool) (p : Int32) (w : Int32) (K : Option Value → QT → Prop) : sp_X7_of [.ref 0, .int p, .int w] (S, M, fl) K = ((vp_in p 6 ∧ vp_in w 8) ∧ K (some (.int (S.P.get w.toNatClampNeg p.toNatClampNeg))) ((S, M, fl))) := rfl
theorem spok_X7_of : SpOk yX7_of cX7_of 3 (some .int) 0 aW sp_X7_of := by
  intro av q K h
  unfold sp_X7_of at h
  split at h
  · rename_i p w; refine ⟨_, _, ?_, con_X7_of q.1 q.2.1 q.2.2 p w h.1, h.2⟩; trivial
  · exact h.elim
def cod_X7_put : List (Nat × Op QT) := [(0, O_aload 0 1), (1, O_getf aW 7 0), (4, O_int 39 2), (6, O_int 8 2), (8, O_iload 1 1), (9, O_imul), (10, O_iadd), (11, O_iload 2 1), (12, O_iadd), (13, O_iload 3 1), (14, O_asti aW aW_wi), (15, O_vret)]
abbrev cut_X7_put : List Nat := []
set_option maxRecDepth 100000 in
theorem okc_X7_put {E : En} (F : Fx E RX7 cX7_put 4 0) (G : Fr E none) : CodOk E aW cod_X7_put := by
  unfold CodOk cod_X7_put
  refine List.forall_mem_cons.mpr ⟨ok_aload_n F dX7_put_0 rfl (by decide), ?_⟩
  refine List.forall_mem_cons.mpr ⟨ok_getf F flX7_7 dX7_put_1 (by decide), ?_⟩
  refine List.forall_mem_cons.mpr ⟨ok_bipush F dX7_put_4 (by decide) (by decide), ?_⟩
  refine List.forall_mem_cons.mpr ⟨ok_bipush F dX7_put_6 (by decide) (by decide), ?_⟩
  refine List.forall_mem_cons.mpr ⟨ok_iload_n F dX7_put_8 rfl (by decide), ?_⟩
  refine List.forall_mem_cons.mpr ⟨ok_imul F dX7_put_9 (by decide), ?_⟩
  refine List.forall_mem_cons.mpr ⟨ok_iadd F dX7_put_10 (by decide), ?_⟩
  refine List.forall_mem_cons.mpr ⟨ok_iload_n F dX7_put_11 rfl (by decide), ?_⟩
  refine List.forall_mem_cons.mpr ⟨ok_iadd F dX7_put_12 (by decide), ?_⟩
  refine List.forall_mem_cons.mpr ⟨ok_iload_n F dX7_put_13 rfl (by decide), ?_⟩
  refine List.forall_mem_cons.mpr ⟨ok_asti F aW_wok dX7_put_14 (by decide), ?_⟩
  refine List.forall_mem_cons.mpr ⟨ok_vret F G dX7_put_15 (by decide), ?_⟩
  exact fun _ h => absurd h List.not_mem_nil
set_option maxRecDepth 100000 in
theorem w_X7_put : (∀ (K : Kt QT) (n : Nat) (L : xL) (st : List Value) (S : QT), nx cod_X7_put cut_X7_put K (n + 1) 0 L st S = (O_aload 0 1) (nx cod_X7_put cut_X7_put K n) 0 L st S) ∧
  (∀ (K : Kt QT) (n : Nat) (L : xL) (st : List Value) (S : QT), nx cod_X7_put cut_X7_put K (n + 1) 1 L st S = (O_getf aW 7 0) (nx cod_X7_put cut_X7_put K n) 1 L st S) ∧
  (∀ (K : Kt QT) (n : Nat) (L : xL) (st : List Value) (S : QT), nx cod_X7_put cut_X7_put K (n + 1) 4 L st S = (O_int 39 2) (nx cod_X7_put cut_X7_put K n) 4 L st S) ∧
  (∀ (K : Kt QT) (n : Nat) (L : xL) (st : List Value) (S : QT), nx cod_X7_put cut_X7_put K (n + 1) 6 L st S = (O_int 8 2) (nx cod_X7_put cut_X7_put K n) 6 L st S) ∧
  (∀ (K : Kt QT) (n : Nat) (L : xL) (st : List Value) (S : QT), nx cod_X7_put cut_X7_put K (n + 1) 8 L st S = (O_iload 1 1) (nx cod_X7_put cut_X7_put K n) 8 L st S) ∧
  (∀ (K : Kt QT) (n : Nat) (L : xL) (st : List Value) (S : QT), nx cod_X7_put cut_X7_put K (n + 1) 9 L st S = (O_imul) (nx cod_X7_put cut_X7_put K n) 9 L st S) ∧
  (∀ (K : Kt QT) (n : Nat) (L : xL) (st : List Value) (S : QT), nx cod_X7_put cut_X7_put K (n + 1) 10 L st S = (O_iadd) (nx cod_X7_put cut_X7_put K n) 10 L st S) ∧
  (∀ (K : Kt QT) (n : Nat) (L : xL) (st : List Value) (S : QT), nx cod_X7_put cut_X7_put K (n + 1) 11 L st S = (O_iload 2 1) (nx cod_X7_put cut_X7_put K n) 11 L st S) ∧
  (∀ (K : Kt QT) (n : Nat) (L : xL) (st : List Value) (S : QT), nx cod_X7_put cut_X7_put K (n + 1) 12 L st S = (O_iadd) (nx cod_X7_put cut_X7_put K n) 12 L st S) ∧
  (∀ (K : Kt QT) (n : Nat) (L : xL) (st : List Value) (S : QT), nx cod_X7_put cut_X7_put K (n + 1) 13 L st S = (O_iload 3 1) (nx cod_X7_put cut_X7_put K n) 13 L st S) ∧
  (∀ (K : Kt QT) (n : Nat) (L : xL) (st : List Value) (S : QT), nx cod_X7_put cut_X7_put K (n + 1) 14 L st S = (O_asti aW aW_wi) (nx cod_X7_put cut_X7_put K n) 14 L st S) ∧
  (∀ (K : Kt QT) (n : Nat) (L : xL) (st : List Value) (S : QT), nx cod_X7_put cut_X7_put K (n + 1) 15 L st S = (O_vret) (nx cod_X7_put cut_X7_put K n) 15 L st S) ∧
  (∀ (K : Kt QT) (n : Nat) (L : xL) (st : List Value) (S : QT), nx cod_X7_put cut_X7_put K (n + 1) 100000 L st S = K 100000 L st S) := by
  repeat' apply And.intro
  all_goals (intros; rfl)
set_option maxRecDepth 100000 in
theorem mk_X7_put {P P' : QT} {r : Option Value} {p0 : Int32} {p1 : Int32} {p2 : Int32} (body : ∀ E : En, CodOk E aW cod_X7_put → Gd E aW 100000 [] r.toList P' → Gd E aW 0 [some (.ref 0), some (.int p0), some (.int p1), some (.int p2)] [] P) : Con yX7_put cX7_put 4 none 0 aW [.ref 0, .int p0, .int p1, .int p2] P r P' :=
  Con.of (by decide) ((aW_len P').trans (aW_len P).symm) rfl (Nat.le_of_ble_eq_true rfl) (fun E F G hr => body E (okc_X7_put F G) hr)
set_option maxRecDepth 10000 in
theorem con_X7_put (S : ST) (M : MT) (fl : Bool) (p : Int32) (w : Int32) (x : Int32) (hp : vp_in p 6 ∧ vp_in w 8) : Con yX7_put cX7_put 4 none 0 aW [.ref 0, .int p, .int w, .int x] (S, M, fl) (none) ((S.sP (S.P.put w.toNatClampNeg p.toNatClampNeg x), M, fl)) := by
  refine mk_X7_put (fun E C hr => ?_)
  obtain ⟨i, k, hi, hk, e1, e2, e3, e4⟩ := at_pump hp.1 hp.2
  have e5 := sn_wr S M fl (39 + 8 * i + k) x (by omega) (by omega) (by omega)
  rw [wr_pump S hi hk] at e5
  rw [e1, e2] at hr
  (refine nx_ok C (cuts := cut_X7_put) 1000 _ _ _ _ ?_; simp only [w_X7_put, ops_eq, xst_eq, call_eq, oK_eq, Option.toList_some, Option.toList_none, List.cons_append, List.nil_append, List.length_cons, List.length_nil, true_and, and_true, Nat.reduceAdd, aW_F, aW_A, aW_P, aW_w, abs_eq, O_asti_eq, v170, cl_eq, ST_id, MT_gs, ST_gs, PT_gs, ZT_gs, NT_gs, ET_gs, e3, e4, e5])
  ((repeat' (with_reducible first | apply And.intro | intro _)) <;> simp_all [ST_id, MT_gs, ST_gs, PT_gs, ZT_gs, NT_gs, ET_gs])
def spc_X7_put (S : ST) (M : MT) (fl : Bool) (p : Int32) (w : Int32) (x : Int32) (K : Option Value → QT → Prop) : Prop := (vp_in p 6 ∧ vp_in w 8) ∧ K (none) ((S.sP (S.P.put w.toNatClampNeg p.toNatClampNeg x), M, fl))
def sp_X7_put : Sp QT := fun av q K => match av with
  | [.ref 0, .int p, .int w, .int x] => spc_X7_put q.1 q.2.1 q.2.2 p w x K
  | _ => False
theorem se_X7_put (S : ST) (M : MT) (fl : Bool) (p : Int32) (w : Int32) (x : Int32) (K : Option Value → QT → Prop) : sp_X7_put [.ref 0, .int p, .int w, .int x] (S, M, fl) K = ((vp_in p 6 ∧ vp_in w 8) ∧ K (none) ((S.sP (S.P.put w.toNatClampNeg p.toNatClampNeg x), M, fl))) := rfl
theorem spok_X7_put : SpOk yX7_put cX7_put 4 none 0 aW sp_X7_put := by
  intro av q K h
  unfold sp_X7_put at h
  split at h
  · rename_i p w x; refine ⟨_, _, ?_, con_X7_put q.1 q.2.1 q.2.2 p w x h.1, h.2⟩; trivial
  · exact h.elim
theorem bI_inj {b c : Bool} (h : b = c) : bI b = bI c := by rw [h]
theorem has_L {p s : Int32} (hs : rng s 0 1000) : inL p.toInt64 0 (s.toInt64 - 1) = decide (¬ p < 0 ∧ p < s) := by
  obtain ⟨n, rfl, hn, hb⟩ := rng_nI hs (by decide)
  have e : (nI n).toInt64 - 1 = (nI n - 1).toInt64 := by
    apply Int64.toInt_inj.mp
    have e1 : (nI n - 1).toInt = (n : Int) - 1 := by
      rw [Int32.toInt_sub, nI_toInt hb]
      exact Int.bmod_eq_of_le (by have : (1 : Int32).toInt = 1 := rfl; omega) (by have : (1 : Int32).toInt = 1 := rfl; omega)
    rw [Int32.toInt_toInt64, e1, Int64.toInt_sub, Int32.toInt_toInt64, nI_toInt hb]
    exact Int.bmod_eq_of_le (by have : (1 : Int64).toInt = 1 := rfl; omega) (by have : (1 : Int64).toInt = 1 := rfl; omega)
  rw [e, show (0 : Int64) = (0 : Int32).toInt64 from rfl, inL_eq]
  unfold inR
  have e1 : (nI n - 1).toInt = (n : Int) - 1 := by
    rw [Int32.toInt_sub, nI_toInt hb]
    exact Int.bmod_eq_of_le (by have : (1 : Int32).toInt = 1 := rfl; omega) (by have : (1 : Int32).toInt = 1 := rfl; omega)
  simp only [Int32.lt_iff_toInt_lt, e1, nI_toInt hb]
  congr 1
  apply propext
  omega
theorem isN_rng {s : Int32} {n N : Nat} (h : isN s n N) : rng s 0 1000 := by
  obtain ⟨rfl, h1, h2⟩ := h
  unfold rng
  rw [nI_toInt (by omega)]
  omega
def cod_X7_isPump : List (Nat × Op QT) := [(0, O_iload 1 1), (1, O_i2l), (2, O_long 0 1), (3, O_aload 0 1), (4, O_getf aW 7 0), (7, O_int 14 2), (9, O_ald aW 0), (10, O_i2l), (11, O_long 1 1), (12, O_lsub), (13, O_callS 3 sp_X7_in), (16, O_zret)]
abbrev cut_X7_isPump : List Nat := []
set_option maxRecDepth 100000 in
theorem okc_X7_isPump {E : En} (F : Fx E RX7 cX7_isPump 2 1) (G : Fr E (some .boolean)) : CodOk E aW cod_X7_isPump := by
  unfold CodOk cod_X7_isPump
  refine List.forall_mem_cons.mpr ⟨ok_iload_n F dX7_isPump_0 rfl (by decide), ?_⟩
  refine List.forall_mem_cons.mpr ⟨ok_i2l F dX7_isPump_1 (by decide), ?_⟩
  refine List.forall_mem_cons.mpr ⟨ok_lconst F dX7_isPump_2 (by decide) (by decide), ?_⟩
  refine List.forall_mem_cons.mpr ⟨ok_aload_n F dX7_isPump_3 rfl (by decide), ?_⟩
  refine List.forall_mem_cons.mpr ⟨ok_getf F flX7_7 dX7_isPump_4 (by decide), ?_⟩
  refine List.forall_mem_cons.mpr ⟨ok_bipush F dX7_isPump_7 (by decide) (by decide), ?_⟩
  refine List.forall_mem_cons.mpr ⟨ok_iald F dX7_isPump_9 (by decide), ?_⟩
  refine List.forall_mem_cons.mpr ⟨ok_i2l F dX7_isPump_10 (by decide), ?_⟩
  refine List.forall_mem_cons.mpr ⟨ok_lconst F dX7_isPump_11 (by decide) (by decide), ?_⟩
  refine List.forall_mem_cons.mpr ⟨ok_lsub F dX7_isPump_12 (by decide), ?_⟩
  refine List.forall_mem_cons.mpr ⟨ok_callS F spok_X7_in (by decide +kernel) rfl (by decide) dX7_isPump_13 (by decide), ?_⟩
  refine List.forall_mem_cons.mpr ⟨ok_zret F G dX7_isPump_16 (by decide), ?_⟩
  exact fun _ h => absurd h List.not_mem_nil
set_option maxRecDepth 100000 in
theorem w_X7_isPump : (∀ (K : Kt QT) (n : Nat) (L : xL) (st : List Value) (S : QT), nx cod_X7_isPump cut_X7_isPump K (n + 1) 0 L st S = (O_iload 1 1) (nx cod_X7_isPump cut_X7_isPump K n) 0 L st S) ∧
  (∀ (K : Kt QT) (n : Nat) (L : xL) (st : List Value) (S : QT), nx cod_X7_isPump cut_X7_isPump K (n + 1) 1 L st S = (O_i2l) (nx cod_X7_isPump cut_X7_isPump K n) 1 L st S) ∧
  (∀ (K : Kt QT) (n : Nat) (L : xL) (st : List Value) (S : QT), nx cod_X7_isPump cut_X7_isPump K (n + 1) 2 L st S = (O_long 0 1) (nx cod_X7_isPump cut_X7_isPump K n) 2 L st S) ∧
  (∀ (K : Kt QT) (n : Nat) (L : xL) (st : List Value) (S : QT), nx cod_X7_isPump cut_X7_isPump K (n + 1) 3 L st S = (O_aload 0 1) (nx cod_X7_isPump cut_X7_isPump K n) 3 L st S) ∧
  (∀ (K : Kt QT) (n : Nat) (L : xL) (st : List Value) (S : QT), nx cod_X7_isPump cut_X7_isPump K (n + 1) 4 L st S = (O_getf aW 7 0) (nx cod_X7_isPump cut_X7_isPump K n) 4 L st S) ∧
  (∀ (K : Kt QT) (n : Nat) (L : xL) (st : List Value) (S : QT), nx cod_X7_isPump cut_X7_isPump K (n + 1) 7 L st S = (O_int 14 2) (nx cod_X7_isPump cut_X7_isPump K n) 7 L st S) ∧
  (∀ (K : Kt QT) (n : Nat) (L : xL) (st : List Value) (S : QT), nx cod_X7_isPump cut_X7_isPump K (n + 1) 9 L st S = (O_ald aW 0) (nx cod_X7_isPump cut_X7_isPump K n) 9 L st S) ∧
  (∀ (K : Kt QT) (n : Nat) (L : xL) (st : List Value) (S : QT), nx cod_X7_isPump cut_X7_isPump K (n + 1) 10 L st S = (O_i2l) (nx cod_X7_isPump cut_X7_isPump K n) 10 L st S) ∧
  (∀ (K : Kt QT) (n : Nat) (L : xL) (st : List Value) (S : QT), nx cod_X7_isPump cut_X7_isPump K (n + 1) 11 L st S = (O_long 1 1) (nx cod_X7_isPump cut_X7_isPump K n) 11 L st S) ∧
  (∀ (K : Kt QT) (n : Nat) (L : xL) (st : List Value) (S : QT), nx cod_X7_isPump cut_X7_isPump K (n + 1) 12 L st S = (O_lsub) (nx cod_X7_isPump cut_X7_isPump K n) 12 L st S) ∧
  (∀ (K : Kt QT) (n : Nat) (L : xL) (st : List Value) (S : QT), nx cod_X7_isPump cut_X7_isPump K (n + 1) 13 L st S = (O_callS 3 sp_X7_in) (nx cod_X7_isPump cut_X7_isPump K n) 13 L st S) ∧
  (∀ (K : Kt QT) (n : Nat) (L : xL) (st : List Value) (S : QT), nx cod_X7_isPump cut_X7_isPump K (n + 1) 16 L st S = (O_zret) (nx cod_X7_isPump cut_X7_isPump K n) 16 L st S) ∧
  (∀ (K : Kt QT) (n : Nat) (L : xL) (st : List Value) (S : QT), nx cod_X7_isPump cut_X7_isPump K (n + 1) 100000 L st S = K 100000 L st S) := by
  repeat' apply And.intro
  all_goals (intros; rfl)
set_option maxRecDepth 100000 in
theorem mk_X7_isPump {P P' : QT} {r : Option Value} {p0 : Int32} (body : ∀ E : En, CodOk E aW cod_X7_isPump → Gd E aW 100000 [] r.toList P' → Gd E aW 0 [some (.ref 0), some (.int p0)] [] P) : Con yX7_isPump cX7_isPump 2 (some .boolean) 1 aW [.ref 0, .int p0] P r P' :=
  Con.of (by decide) ((aW_len P').trans (aW_len P).symm) rfl (Nat.le_of_ble_eq_true rfl) (fun E F G hr => body E (okc_X7_isPump F G) hr)
set_option maxRecDepth 10000 in
theorem con_X7_isPump (S : ST) (M : MT) (fl : Bool) (p : Int32) (hp : S.P.ok) : Con yX7_isPump cX7_isPump 2 (some .boolean) 1 aW [.ref 0, .int p] (S, M, fl) (some (.int (bI (S.P.has p)))) ((S, M, fl)) := by
  refine mk_X7_isPump (fun E C hr => ?_)
  have h1 := has_L (p := p) (isN_rng hp)
  (refine nx_ok C (cuts := cut_X7_isPump) 1000 _ _ _ _ ?_; simp only [w_X7_isPump, ops_eq, xst_eq, call_eq, oK_eq, Option.toList_some, Option.toList_none, List.cons_append, List.nil_append, List.length_cons, List.length_nil, true_and, and_true, Nat.reduceAdd, aW_F, aW_A, aW_P, aW_w, abs_eq, O_asti_eq, v170, cl_eq, ST_id, MT_gs, ST_gs, PT_gs, ZT_gs, NT_gs, ET_gs, se_X7_in, bI_eq, h1])
  ((repeat' (with_reducible first | apply And.intro | intro _)) <;> simp_all [PT.has, bI, ST_id, MT_gs, ST_gs, PT_gs, ZT_gs, NT_gs, ET_gs])
def spc_X7_isPump (S : ST) (M : MT) (fl : Bool) (p : Int32) (K : Option Value → QT → Prop) : Prop := (S.P.ok) ∧ K (some (.int (bI (S.P.has p)))) ((S, M, fl))
def sp_X7_isPump : Sp QT := fun av q K => match av with
  | [.ref 0, .int p] => spc_X7_isPump q.1 q.2.1 q.2.2 p K
  | _ => False
theorem se_X7_isPump (S : ST) (M : MT) (fl : Bool) (p : Int32) (K : Option Value → QT → Prop) : sp_X7_isPump [.ref 0, .int p] (S, M, fl) K = ((S.P.ok) ∧ K (some (.int (bI (S.P.has p)))) ((S, M, fl))) := rfl
theorem spok_X7_isPump : SpOk yX7_isPump cX7_isPump 2 (some .boolean) 1 aW sp_X7_isPump := by
  intro av q K h
  unfold sp_X7_isPump at h
  split at h
  · rename_i p; refine ⟨_, _, ?_, con_X7_isPump q.1 q.2.1 q.2.2 p h.1, h.2⟩; trivial
  · exact h.elim
def cod_X7_isZone : List (Nat × Op QT) := [(0, O_iload 1 1), (1, O_i2l), (2, O_long 0 1), (3, O_aload 0 1), (4, O_getf aW 7 0), (7, O_int 15 2), (9, O_ald aW 0), (10, O_i2l), (11, O_long 1 1), (12, O_lsub), (13, O_callS 3 sp_X7_in), (16, O_zret)]
abbrev cut_X7_isZone : List Nat := []
set_option maxRecDepth 100000 in
theorem okc_X7_isZone {E : En} (F : Fx E RX7 cX7_isZone 2 1) (G : Fr E (some .boolean)) : CodOk E aW cod_X7_isZone := by
  unfold CodOk cod_X7_isZone
  refine List.forall_mem_cons.mpr ⟨ok_iload_n F dX7_isZone_0 rfl (by decide), ?_⟩
  refine List.forall_mem_cons.mpr ⟨ok_i2l F dX7_isZone_1 (by decide), ?_⟩
  refine List.forall_mem_cons.mpr ⟨ok_lconst F dX7_isZone_2 (by decide) (by decide), ?_⟩
  refine List.forall_mem_cons.mpr ⟨ok_aload_n F dX7_isZone_3 rfl (by decide), ?_⟩
  refine List.forall_mem_cons.mpr ⟨ok_getf F flX7_7 dX7_isZone_4 (by decide), ?_⟩
  refine List.forall_mem_cons.mpr ⟨ok_bipush F dX7_isZone_7 (by decide) (by decide), ?_⟩
  refine List.forall_mem_cons.mpr ⟨ok_iald F dX7_isZone_9 (by decide), ?_⟩
  refine List.forall_mem_cons.mpr ⟨ok_i2l F dX7_isZone_10 (by decide), ?_⟩
  refine List.forall_mem_cons.mpr ⟨ok_lconst F dX7_isZone_11 (by decide) (by decide), ?_⟩
  refine List.forall_mem_cons.mpr ⟨ok_lsub F dX7_isZone_12 (by decide), ?_⟩
  refine List.forall_mem_cons.mpr ⟨ok_callS F spok_X7_in (by decide +kernel) rfl (by decide) dX7_isZone_13 (by decide), ?_⟩
  refine List.forall_mem_cons.mpr ⟨ok_zret F G dX7_isZone_16 (by decide), ?_⟩
  exact fun _ h => absurd h List.not_mem_nil
set_option maxRecDepth 100000 in
theorem w_X7_isZone : (∀ (K : Kt QT) (n : Nat) (L : xL) (st : List Value) (S : QT), nx cod_X7_isZone cut_X7_isZone K (n + 1) 0 L st S = (O_iload 1 1) (nx cod_X7_isZone cut_X7_isZone K n) 0 L st S) ∧
  (∀ (K : Kt QT) (n : Nat) (L : xL) (st : List Value) (S : QT), nx cod_X7_isZone cut_X7_isZone K (n + 1) 1 L st S = (O_i2l) (nx cod_X7_isZone cut_X7_isZone K n) 1 L st S) ∧
  (∀ (K : Kt QT) (n : Nat) (L : xL) (st : List Value) (S : QT), nx cod_X7_isZone cut_X7_isZone K (n + 1) 2 L st S = (O_long 0 1) (nx cod_X7_isZone cut_X7_isZone K n) 2 L st S) ∧
  (∀ (K : Kt QT) (n : Nat) (L : xL) (st : List Value) (S : QT), nx cod_X7_isZone cut_X7_isZone K (n + 1) 3 L st S = (O_aload 0 1) (nx cod_X7_isZone cut_X7_isZone K n) 3 L st S) ∧
  (∀ (K : Kt QT) (n : Nat) (L : xL) (st : List Value) (S : QT), nx cod_X7_isZone cut_X7_isZone K (n + 1) 4 L st S = (O_getf aW 7 0) (nx cod_X7_isZone cut_X7_isZone K n) 4 L st S) ∧
  (∀ (K : Kt QT) (n : Nat) (L : xL) (st : List Value) (S : QT), nx cod_X7_isZone cut_X7_isZone K (n + 1) 7 L st S = (O_int 15 2) (nx cod_X7_isZone cut_X7_isZone K n) 7 L st S) ∧
  (∀ (K : Kt QT) (n : Nat) (L : xL) (st : List Value) (S : QT), nx cod_X7_isZone cut_X7_isZone K (n + 1) 9 L st S = (O_ald aW 0) (nx cod_X7_isZone cut_X7_isZone K n) 9 L st S) ∧
  (∀ (K : Kt QT) (n : Nat) (L : xL) (st : List Value) (S : QT), nx cod_X7_isZone cut_X7_isZone K (n + 1) 10 L st S = (O_i2l) (nx cod_X7_isZone cut_X7_isZone K n) 10 L st S) ∧
  (∀ (K : Kt QT) (n : Nat) (L : xL) (st : List Value) (S : QT), nx cod_X7_isZone cut_X7_isZone K (n + 1) 11 L st S = (O_long 1 1) (nx cod_X7_isZone cut_X7_isZone K n) 11 L st S) ∧
  (∀ (K : Kt QT) (n : Nat) (L : xL) (st : List Value) (S : QT), nx cod_X7_isZone cut_X7_isZone K (n + 1) 12 L st S = (O_lsub) (nx cod_X7_isZone cut_X7_isZone K n) 12 L st S) ∧
  (∀ (K : Kt QT) (n : Nat) (L : xL) (st : List Value) (S : QT), nx cod_X7_isZone cut_X7_isZone K (n + 1) 13 L st S = (O_callS 3 sp_X7_in) (nx cod_X7_isZone cut_X7_isZone K n) 13 L st S) ∧
  (∀ (K : Kt QT) (n : Nat) (L : xL) (st : List Value) (S : QT), nx cod_X7_isZone cut_X7_isZone K (n + 1) 16 L st S = (O_zret) (nx cod_X7_isZone cut_X7_isZone K n) 16 L st S) ∧
  (∀ (K : Kt QT) (n : Nat) (L : xL) (st : List Value) (S : QT), nx cod_X7_isZone cut_X7_isZone K (n + 1) 100000 L st S = K 100000 L st S) := by
  repeat' apply And.intro
  all_goals (intros; rfl)
set_option maxRecDepth 100000 in
theorem mk_X7_isZone {P P' : QT} {r : Option Value} {p0 : Int32} (body : ∀ E : En, CodOk E aW cod_X7_isZone → Gd E aW 100000 [] r.toList P' → Gd E aW 0 [some (.ref 0), some (.int p0)] [] P) : Con yX7_isZone cX7_isZone 2 (some .boolean) 1 aW [.ref 0, .int p0] P r P' :=
  Con.of (by decide) ((aW_len P').trans (aW_len P).symm) rfl (Nat.le_of_ble_eq_true rfl) (fun E F G hr => body E (okc_X7_isZone F G) hr)
set_option maxRecDepth 10000 in
theorem con_X7_isZone (S : ST) (M : MT) (fl : Bool) (p : Int32) (hp : S.Z.ok) : Con yX7_isZone cX7_isZone 2 (some .boolean) 1 aW [.ref 0, .int p] (S, M, fl) (some (.int (bI (S.Z.has p)))) ((S, M, fl)) := by
  refine mk_X7_isZone (fun E C hr => ?_)
  have h1 := has_L (p := p) (isN_rng hp.1)
  (refine nx_ok C (cuts := cut_X7_isZone) 1000 _ _ _ _ ?_; simp only [w_X7_isZone, ops_eq, xst_eq, call_eq, oK_eq, Option.toList_some, Option.toList_none, List.cons_append, List.nil_append, List.length_cons, List.length_nil, true_and, and_true, Nat.reduceAdd, aW_F, aW_A, aW_P, aW_w, abs_eq, O_asti_eq, v170, cl_eq, ST_id, MT_gs, ST_gs, PT_gs, ZT_gs, NT_gs, ET_gs, se_X7_in, bI_eq, h1])
  ((repeat' (with_reducible first | apply And.intro | intro _)) <;> simp_all [ZT.has, bI, ST_id, MT_gs, ST_gs, PT_gs, ZT_gs, NT_gs, ET_gs])
def spc_X7_isZone (S : ST) (M : MT) (fl : Bool) (p : Int32) (K : Option Value → QT → Prop) : Prop := (S.Z.ok) ∧ K (some (.int (bI (S.Z.has p)))) ((S, M, fl))
def sp_X7_isZone : Sp QT := fun av q K => match av with
  | [.ref 0, .int p] => spc_X7_isZone q.1 q.2.1 q.2.2 p K
  | _ => False
theorem se_X7_isZone (S : ST) (M : MT) (fl : Bool) (p : Int32) (K : Option Value → QT → Prop) : sp_X7_isZone [.ref 0, .int p] (S, M, fl) K = ((S.Z.ok) ∧ K (some (.int (bI (S.Z.has p)))) ((S, M, fl))) := rfl
theorem spok_X7_isZone : SpOk yX7_isZone cX7_isZone 2 (some .boolean) 1 aW sp_X7_isZone := by
  intro av q K h
  unfold sp_X7_isZone at h
  split at h
  · rename_i p; refine ⟨_, _, ?_, con_X7_isZone q.1 q.2.1 q.2.2 p h.1, h.2⟩; trivial
  · exact h.elim
def cod_X7_runs : List (Nat × Op QT) := [(0, O_aload 0 1), (1, O_iload 1 1), (2, O_int 4 1), (3, O_callV 2 0 (fun S => S) (fun _ S' => S') sp_X7_of), (6, O_if_le 13), (9, O_int 1 1), (10, O_goto 14), (13, O_int 0 1), (14, O_zret)]
abbrev cut_X7_runs : List Nat := []
set_option maxRecDepth 100000 in
theorem okc_X7_runs {E : En} (F : Fx E RX7 cX7_runs 2 1) (G : Fr E (some .boolean)) : CodOk E aW cod_X7_runs := by
  unfold CodOk cod_X7_runs
  refine List.forall_mem_cons.mpr ⟨ok_aload_n F dX7_runs_0 rfl (by decide), ?_⟩
  refine List.forall_mem_cons.mpr ⟨ok_iload_n F dX7_runs_1 rfl (by decide), ?_⟩
  refine List.forall_mem_cons.mpr ⟨ok_iconst F dX7_runs_2 (by decide) (by decide), ?_⟩
  refine List.forall_mem_cons.mpr ⟨ok_callV F spok_X7_of (ln_id aW) rcv_aW (by decide +kernel) (by decide) dX7_runs_3 (by decide), ?_⟩
  refine List.forall_mem_cons.mpr ⟨ok_if_le F dX7_runs_6 (by decide) (by decide) (by decide), ?_⟩
  refine List.forall_mem_cons.mpr ⟨ok_iconst F dX7_runs_9 (by decide) (by decide), ?_⟩
  refine List.forall_mem_cons.mpr ⟨ok_goto F dX7_runs_10 (by decide) (by decide) (by decide), ?_⟩
  refine List.forall_mem_cons.mpr ⟨ok_iconst F dX7_runs_13 (by decide) (by decide), ?_⟩
  refine List.forall_mem_cons.mpr ⟨ok_zret F G dX7_runs_14 (by decide), ?_⟩
  exact fun _ h => absurd h List.not_mem_nil
set_option maxRecDepth 100000 in
theorem w_X7_runs : (∀ (K : Kt QT) (n : Nat) (L : xL) (st : List Value) (S : QT), nx cod_X7_runs cut_X7_runs K (n + 1) 0 L st S = (O_aload 0 1) (nx cod_X7_runs cut_X7_runs K n) 0 L st S) ∧
  (∀ (K : Kt QT) (n : Nat) (L : xL) (st : List Value) (S : QT), nx cod_X7_runs cut_X7_runs K (n + 1) 1 L st S = (O_iload 1 1) (nx cod_X7_runs cut_X7_runs K n) 1 L st S) ∧
  (∀ (K : Kt QT) (n : Nat) (L : xL) (st : List Value) (S : QT), nx cod_X7_runs cut_X7_runs K (n + 1) 2 L st S = (O_int 4 1) (nx cod_X7_runs cut_X7_runs K n) 2 L st S) ∧
  (∀ (K : Kt QT) (n : Nat) (L : xL) (st : List Value) (S : QT), nx cod_X7_runs cut_X7_runs K (n + 1) 3 L st S = (O_callV 2 0 (fun S => S) (fun _ S' => S') sp_X7_of) (nx cod_X7_runs cut_X7_runs K n) 3 L st S) ∧
  (∀ (K : Kt QT) (n : Nat) (L : xL) (st : List Value) (S : QT), nx cod_X7_runs cut_X7_runs K (n + 1) 6 L st S = (O_if_le 13) (nx cod_X7_runs cut_X7_runs K n) 6 L st S) ∧
  (∀ (K : Kt QT) (n : Nat) (L : xL) (st : List Value) (S : QT), nx cod_X7_runs cut_X7_runs K (n + 1) 9 L st S = (O_int 1 1) (nx cod_X7_runs cut_X7_runs K n) 9 L st S) ∧
  (∀ (K : Kt QT) (n : Nat) (L : xL) (st : List Value) (S : QT), nx cod_X7_runs cut_X7_runs K (n + 1) 10 L st S = (O_goto 14) (nx cod_X7_runs cut_X7_runs K n) 10 L st S) ∧
  (∀ (K : Kt QT) (n : Nat) (L : xL) (st : List Value) (S : QT), nx cod_X7_runs cut_X7_runs K (n + 1) 13 L st S = (O_int 0 1) (nx cod_X7_runs cut_X7_runs K n) 13 L st S) ∧
  (∀ (K : Kt QT) (n : Nat) (L : xL) (st : List Value) (S : QT), nx cod_X7_runs cut_X7_runs K (n + 1) 14 L st S = (O_zret) (nx cod_X7_runs cut_X7_runs K n) 14 L st S) ∧
  (∀ (K : Kt QT) (n : Nat) (L : xL) (st : List Value) (S : QT), nx cod_X7_runs cut_X7_runs K (n + 1) 100000 L st S = K 100000 L st S) := by
  repeat' apply And.intro
  all_goals (intros; rfl)
set_option maxRecDepth 100000 in
theorem mk_X7_runs {P P' : QT} {r : Option Value} {p0 : Int32} (body : ∀ E : En, CodOk E aW cod_X7_runs → Gd E aW 100000 [] r.toList P' → Gd E aW 0 [some (.ref 0), some (.int p0)] [] P) : Con yX7_runs cX7_runs 2 (some .boolean) 1 aW [.ref 0, .int p0] P r P' :=
  Con.of (by decide) ((aW_len P').trans (aW_len P).symm) rfl (Nat.le_of_ble_eq_true rfl) (fun E F G hr => body E (okc_X7_runs F G) hr)
set_option maxRecDepth 10000 in
theorem con_X7_runs (S : ST) (M : MT) (fl : Bool) (p : Int32) (hp : vp_in p 6) : Con yX7_runs cX7_runs 2 (some .boolean) 1 aW [.ref 0, .int p] (S, M, fl) (some (.int (bI (S.P.run p.toNatClampNeg)))) ((S, M, fl)) := by
  refine mk_X7_runs (fun E C hr => ?_)
  (refine nx_ok C (cuts := cut_X7_runs) 1000 _ _ _ _ ?_; simp only [w_X7_runs, ops_eq, xst_eq, call_eq, oK_eq, Option.toList_some, Option.toList_none, List.cons_append, List.nil_append, List.length_cons, List.length_nil, true_and, and_true, Nat.reduceAdd, aW_F, aW_A, aW_P, aW_w, abs_eq, O_asti_eq, v170, cl_eq, ST_id, MT_gs, ST_gs, PT_gs, ZT_gs, NT_gs, ET_gs, se_X7_of, bI_eq, v8_eq, cl_eq, hp, get_eq])
  ((repeat' (with_reducible first | apply And.intro | intro _)) <;> simp_all [PT.run, bI, ST_id, MT_gs, ST_gs, PT_gs, ZT_gs, NT_gs, ET_gs])
def spc_X7_runs (S : ST) (M : MT) (fl : Bool) (p : Int32) (K : Option Value → QT → Prop) : Prop := (vp_in p 6) ∧ K (some (.int (bI (S.P.run p.toNatClampNeg)))) ((S, M, fl))
def sp_X7_runs : Sp QT := fun av q K => match av with
  | [.ref 0, .int p] => spc_X7_runs q.1 q.2.1 q.2.2 p K
  | _ => False
theorem se_X7_runs (S : ST) (M : MT) (fl : Bool) (p : Int32) (K : Option Value → QT → Prop) : sp_X7_runs [.ref 0, .int p] (S, M, fl) K = ((vp_in p 6) ∧ K (some (.int (bI (S.P.run p.toNatClampNeg)))) ((S, M, fl))) := rfl
theorem spok_X7_runs : SpOk yX7_runs cX7_runs 2 (some .boolean) 1 aW sp_X7_runs := by
  intro av q K h
  unfold sp_X7_runs at h
  split at h
  · rename_i p; refine ⟨_, _, ?_, con_X7_runs q.1 q.2.1 q.2.2 p h.1, h.2⟩; trivial
  · exact h.elim
def cod_X7_running : List (Nat × Op QT) := [(0, O_int 0 1), (1, O_istore 1 1), (2, O_int 0 1), (3, O_istore 2 1), (4, O_iload 2 1), (5, O_aload 0 1), (6, O_getf aW 7 0), (9, O_int 14 2), (11, O_ald aW 0), (12, O_icmp_ge 37), (15, O_iload 1 1), (16, O_aload 0 1), (17, O_iload 2 1), (18, O_callV 1 0 (fun S => S) (fun _ S' => S') sp_X7_runs), (21, O_if_eq 28), (24, O_int 1 1), (25, O_goto 29), (28, O_int 0 1), (29, O_iadd), (30, O_istore 1 1), (31, O_iinc 2 1), (34, O_goto 4), (37, O_iload 1 1), (38, O_iret)]
abbrev cut_X7_running : List Nat := [4]
set_option maxRecDepth 100000 in
theorem okc_X7_running {E : En} (F : Fx E RX7 cX7_running 3 2) (G : Fr E (some .int)) : CodOk E aW cod_X7_running := by
  unfold CodOk cod_X7_running
  refine List.forall_mem_cons.mpr ⟨ok_iconst F dX7_running_0 (by decide) (by decide), ?_⟩
  refine List.forall_mem_cons.mpr ⟨ok_istore_n F dX7_running_1 rfl (by decide) (by decide), ?_⟩
  refine List.forall_mem_cons.mpr ⟨ok_iconst F dX7_running_2 (by decide) (by decide), ?_⟩
  refine List.forall_mem_cons.mpr ⟨ok_istore_n F dX7_running_3 rfl (by decide) (by decide), ?_⟩
  refine List.forall_mem_cons.mpr ⟨ok_iload_n F dX7_running_4 rfl (by decide), ?_⟩
  refine List.forall_mem_cons.mpr ⟨ok_aload_n F dX7_running_5 rfl (by decide), ?_⟩
  refine List.forall_mem_cons.mpr ⟨ok_getf F flX7_7 dX7_running_6 (by decide), ?_⟩
  refine List.forall_mem_cons.mpr ⟨ok_bipush F dX7_running_9 (by decide) (by decide), ?_⟩
  refine List.forall_mem_cons.mpr ⟨ok_iald F dX7_running_11 (by decide), ?_⟩
  refine List.forall_mem_cons.mpr ⟨ok_icmp_ge F dX7_running_12 (by decide) (by decide) (by decide), ?_⟩
  refine List.forall_mem_cons.mpr ⟨ok_iload_n F dX7_running_15 rfl (by decide), ?_⟩
  refine List.forall_mem_cons.mpr ⟨ok_aload_n F dX7_running_16 rfl (by decide), ?_⟩
  refine List.forall_mem_cons.mpr ⟨ok_iload_n F dX7_running_17 rfl (by decide), ?_⟩
  refine List.forall_mem_cons.mpr ⟨ok_callV F spok_X7_runs (ln_id aW) rcv_aW (by decide +kernel) (by decide) dX7_running_18 (by decide), ?_⟩
  refine List.forall_mem_cons.mpr ⟨ok_if_eq F dX7_running_21 (by decide) (by decide) (by decide), ?_⟩
  refine List.forall_mem_cons.mpr ⟨ok_iconst F dX7_running_24 (by decide) (by decide), ?_⟩
  refine List.forall_mem_cons.mpr ⟨ok_goto F dX7_running_25 (by decide) (by decide) (by decide), ?_⟩
  refine List.forall_mem_cons.mpr ⟨ok_iconst F dX7_running_28 (by decide) (by decide), ?_⟩
  refine List.forall_mem_cons.mpr ⟨ok_iadd F dX7_running_29 (by decide), ?_⟩
  refine List.forall_mem_cons.mpr ⟨ok_istore_n F dX7_running_30 rfl (by decide) (by decide), ?_⟩
  refine List.forall_mem_cons.mpr ⟨ok_iinc F dX7_running_31 (by decide) (by decide) (by decide), ?_⟩
  refine List.forall_mem_cons.mpr ⟨ok_goto F dX7_running_34 (by decide) (by decide) (by decide), ?_⟩
  refine List.forall_mem_cons.mpr ⟨ok_iload_n F dX7_running_37 rfl (by decide), ?_⟩
  refine List.forall_mem_cons.mpr ⟨ok_iret F G dX7_running_38 (by decide), ?_⟩
  exact fun _ h => absurd h List.not_mem_nil
set_option maxRecDepth 100000 in
theorem w_X7_running : (∀ (K : Kt QT) (n : Nat) (L : xL) (st : List Value) (S : QT), nx cod_X7_running cut_X7_running K (n + 1) 0 L st S = (O_int 0 1) (nx cod_X7_running cut_X7_running K n) 0 L st S) ∧
  (∀ (K : Kt QT) (n : Nat) (L : xL) (st : List Value) (S : QT), nx cod_X7_running cut_X7_running K (n + 1) 1 L st S = (O_istore 1 1) (nx cod_X7_running cut_X7_running K n) 1 L st S) ∧
  (∀ (K : Kt QT) (n : Nat) (L : xL) (st : List Value) (S : QT), nx cod_X7_running cut_X7_running K (n + 1) 2 L st S = (O_int 0 1) (nx cod_X7_running cut_X7_running K n) 2 L st S) ∧
  (∀ (K : Kt QT) (n : Nat) (L : xL) (st : List Value) (S : QT), nx cod_X7_running cut_X7_running K (n + 1) 3 L st S = (O_istore 2 1) (nx cod_X7_running cut_X7_running K n) 3 L st S) ∧
  (∀ (K : Kt QT) (n : Nat) (L : xL) (st : List Value) (S : QT), nx cod_X7_running cut_X7_running K (n + 1) 4 L st S = K 4 L st S) ∧
  (∀ (K : Kt QT) (n : Nat) (L : xL) (st : List Value) (S : QT), nx1 cod_X7_running cut_X7_running K n 4 L st S = (O_iload 2 1) (nx cod_X7_running cut_X7_running K n) 4 L st S) ∧
  (∀ (K : Kt QT) (n : Nat) (L : xL) (st : List Value) (S : QT), nx cod_X7_running cut_X7_running K (n + 1) 5 L st S = (O_aload 0 1) (nx cod_X7_running cut_X7_running K n) 5 L st S) ∧
  (∀ (K : Kt QT) (n : Nat) (L : xL) (st : List Value) (S : QT), nx cod_X7_running cut_X7_running K (n + 1) 6 L st S = (O_getf aW 7 0) (nx cod_X7_running cut_X7_running K n) 6 L st S) ∧
  (∀ (K : Kt QT) (n : Nat) (L : xL) (st : List Value) (S : QT), nx cod_X7_running cut_X7_running K (n + 1) 9 L st S = (O_int 14 2) (nx cod_X7_running cut_X7_running K n) 9 L st S) ∧
  (∀ (K : Kt QT) (n : Nat) (L : xL) (st : List Value) (S : QT), nx cod_X7_running cut_X7_running K (n + 1) 11 L st S = (O_ald aW 0) (nx cod_X7_running cut_X7_running K n) 11 L st S) ∧
  (∀ (K : Kt QT) (n : Nat) (L : xL) (st : List Value) (S : QT), nx cod_X7_running cut_X7_running K (n + 1) 12 L st S = (O_icmp_ge 37) (nx cod_X7_running cut_X7_running K n) 12 L st S) ∧
  (∀ (K : Kt QT) (n : Nat) (L : xL) (st : List Value) (S : QT), nx cod_X7_running cut_X7_running K (n + 1) 15 L st S = (O_iload 1 1) (nx cod_X7_running cut_X7_running K n) 15 L st S) ∧
  (∀ (K : Kt QT) (n : Nat) (L : xL) (st : List Value) (S : QT), nx cod_X7_running cut_X7_running K (n + 1) 16 L st S = (O_aload 0 1) (nx cod_X7_running cut_X7_running K n) 16 L st S) ∧
  (∀ (K : Kt QT) (n : Nat) (L : xL) (st : List Value) (S : QT), nx cod_X7_running cut_X7_running K (n + 1) 17 L st S = (O_iload 2 1) (nx cod_X7_running cut_X7_running K n) 17 L st S) ∧
  (∀ (K : Kt QT) (n : Nat) (L : xL) (st : List Value) (S : QT), nx cod_X7_running cut_X7_running K (n + 1) 18 L st S = (O_callV 1 0 (fun S => S) (fun _ S' => S') sp_X7_runs) (nx cod_X7_running cut_X7_running K n) 18 L st S) ∧
  (∀ (K : Kt QT) (n : Nat) (L : xL) (st : List Value) (S : QT), nx cod_X7_running cut_X7_running K (n + 1) 21 L st S = (O_if_eq 28) (nx cod_X7_running cut_X7_running K n) 21 L st S) ∧
  (∀ (K : Kt QT) (n : Nat) (L : xL) (st : List Value) (S : QT), nx cod_X7_running cut_X7_running K (n + 1) 24 L st S = (O_int 1 1) (nx cod_X7_running cut_X7_running K n) 24 L st S) ∧
  (∀ (K : Kt QT) (n : Nat) (L : xL) (st : List Value) (S : QT), nx cod_X7_running cut_X7_running K (n + 1) 25 L st S = (O_goto 29) (nx cod_X7_running cut_X7_running K n) 25 L st S) ∧
  (∀ (K : Kt QT) (n : Nat) (L : xL) (st : List Value) (S : QT), nx cod_X7_running cut_X7_running K (n + 1) 28 L st S = (O_int 0 1) (nx cod_X7_running cut_X7_running K n) 28 L st S) ∧
  (∀ (K : Kt QT) (n : Nat) (L : xL) (st : List Value) (S : QT), nx cod_X7_running cut_X7_running K (n + 1) 29 L st S = (O_iadd) (nx cod_X7_running cut_X7_running K n) 29 L st S) ∧
  (∀ (K : Kt QT) (n : Nat) (L : xL) (st : List Value) (S : QT), nx cod_X7_running cut_X7_running K (n + 1) 30 L st S = (O_istore 1 1) (nx cod_X7_running cut_X7_running K n) 30 L st S) ∧
  (∀ (K : Kt QT) (n : Nat) (L : xL) (st : List Value) (S : QT), nx cod_X7_running cut_X7_running K (n + 1) 31 L st S = (O_iinc 2 1) (nx cod_X7_running cut_X7_running K n) 31 L st S) ∧
  (∀ (K : Kt QT) (n : Nat) (L : xL) (st : List Value) (S : QT), nx cod_X7_running cut_X7_running K (n + 1) 34 L st S = (O_goto 4) (nx cod_X7_running cut_X7_running K n) 34 L st S) ∧
  (∀ (K : Kt QT) (n : Nat) (L : xL) (st : List Value) (S : QT), nx cod_X7_running cut_X7_running K (n + 1) 37 L st S = (O_iload 1 1) (nx cod_X7_running cut_X7_running K n) 37 L st S) ∧
  (∀ (K : Kt QT) (n : Nat) (L : xL) (st : List Value) (S : QT), nx cod_X7_running cut_X7_running K (n + 1) 38 L st S = (O_iret) (nx cod_X7_running cut_X7_running K n) 38 L st S) ∧
  (∀ (K : Kt QT) (n : Nat) (L : xL) (st : List Value) (S : QT), nx cod_X7_running cut_X7_running K (n + 1) 100000 L st S = K 100000 L st S) := by
  repeat' apply And.intro
  all_goals (intros; rfl)
set_option maxRecDepth 100000 in
theorem mk_X7_running {P P' : QT} {r : Option Value}  (body : ∀ E : En, CodOk E aW cod_X7_running → Gd E aW 100000 [] r.toList P' → Gd E aW 0 [some (.ref 0), none, none] [] P) : Con yX7_running cX7_running 3 (some .int) 2 aW [.ref 0] P r P' :=
  Con.of (by decide) ((aW_len P').trans (aW_len P).symm) rfl (Nat.le_of_ble_eq_true rfl) (fun E F G hr => body E (okc_X7_running F G) hr)
set_option maxRecDepth 10000 in
theorem con_X7_running (S : ST) (M : MT) (fl : Bool)  (hp : S.P.ok) : Con yX7_running cX7_running 3 (some .int) 2 aW [.ref 0] (S, M, fl) (some (.int (S.P.running))) ((S, M, fl)) := by
  refine mk_X7_running (fun E C hr => ?_)
  (refine nx_ok C (cuts := cut_X7_running) 1000 _ _ _ _ ?_; simp only [w_X7_running, ops_eq, xst_eq, call_eq, oK_eq, Option.toList_some, Option.toList_none, List.cons_append, List.nil_append, List.length_cons, List.length_nil, true_and, and_true, Nat.reduceAdd, aW_F, aW_A, aW_P, aW_w, abs_eq, O_asti_eq, v170, cl_eq, ST_id, MT_gs, ST_gs, PT_gs, ZT_gs, NT_gs, ET_gs, se_X7_runs])
  refine it_up (f := fun p r => r + bI (S.P.run p)) (n := S.P.n) (fun _ _ => True) (fun i r => Gd E aW 4 [some (.ref 0), some (.int r), some (.int (nI i))] [] (S, M, fl)) trivial (fun _ _ _ _ => trivial) (fun i r hi _ hn => ?_) ?_
  · have hx := ixs hp hi
    (refine nx1_ok C cut_X7_running 1000 ?_; simp only [w_X7_running, ops_eq, xst_eq, call_eq, oK_eq, Option.toList_some, Option.toList_none, List.cons_append, List.nil_append, List.length_cons, List.length_nil, true_and, and_true, Nat.reduceAdd, aW_F, aW_A, aW_P, aW_w, abs_eq, O_asti_eq, v170, cl_eq, ST_id, MT_gs, ST_gs, PT_gs, ZT_gs, NT_gs, ET_gs, se_X7_runs, hx, cl_eq, bI_eq])
    ((repeat' (with_reducible first | apply And.intro | intro _)) <;> simp_all [bI, ST_id, MT_gs, ST_gs, PT_gs, ZT_gs, NT_gs, ET_gs])
  · have hx := ixe hp
    (refine nx1_ok C cut_X7_running 1000 ?_; simp only [w_X7_running, ops_eq, xst_eq, call_eq, oK_eq, Option.toList_some, Option.toList_none, List.cons_append, List.nil_append, List.length_cons, List.length_nil, true_and, and_true, Nat.reduceAdd, aW_F, aW_A, aW_P, aW_w, abs_eq, O_asti_eq, v170, cl_eq, ST_id, MT_gs, ST_gs, PT_gs, ZT_gs, NT_gs, ET_gs, se_X7_runs, hx, cl_eq])
    ((repeat' (with_reducible first | apply And.intro | intro _)) <;> simp_all [PT.running, ST_id, MT_gs, ST_gs, PT_gs, ZT_gs, NT_gs, ET_gs])
def spc_X7_running (S : ST) (M : MT) (fl : Bool)  (K : Option Value → QT → Prop) : Prop := (S.P.ok) ∧ K (some (.int (S.P.running))) ((S, M, fl))
def sp_X7_running : Sp QT := fun av q K => match av with
  | [.ref 0] => spc_X7_running q.1 q.2.1 q.2.2  K
  | _ => False
theorem se_X7_running (S : ST) (M : MT) (fl : Bool)  (K : Option Value → QT → Prop) : sp_X7_running [.ref 0] (S, M, fl) K = ((S.P.ok) ∧ K (some (.int (S.P.running))) ((S, M, fl))) := rfl
theorem spok_X7_running : SpOk yX7_running cX7_running 3 (some .int) 2 aW sp_X7_running := by
  intro av q K h
  unfold sp_X7_running at h
  split at h
  · refine ⟨_, _, ?_, con_X7_running q.1 q.2.1 q.2.2  h.1, h.2⟩; trivial
  · exact h.elim
theorem rdy_eq {S : PT} (h : S.inv) {i : Nat} (hi : i < S.n) : S.rdy i = decide (S.inService i = 1 ∧ S.run i = false) := by
  obtain ⟨h1, h2, h3, h4, h5⟩ := h.2.1 i hi
  unfold PT.rdy PT.run
  congr 1
  apply propext
  have e1 : (¬ S.inService i = 0) ↔ S.inService i = 1 := by
    rcases h4 with q | q <;> rw [q] <;> decide
  have e2 : (S.speeds i = 0) ↔ ¬ 0 < S.speeds i := by
    rw [Int32.lt_iff_toInt_lt]
    have ez : (0 : Int32).toInt = 0 := rfl
    unfold rng at h3
    constructor
    · intro q; rw [q]; omega
    · intro q
      apply Int32.toInt_inj.mp
      omega
  rw [e1, e2]
  simp
def cod_X7_isReady : List (Nat × Op QT) := [(0, O_aload 0 1), (1, O_iload 1 1), (2, O_int 3 1), (3, O_callV 2 0 (fun S => S) (fun _ S' => S') sp_X7_of), (6, O_int 1 1), (7, O_icmp_ne 22), (10, O_aload 0 1), (11, O_iload 1 1), (12, O_callV 1 0 (fun S => S) (fun _ S' => S') sp_X7_runs), (15, O_if_ne 22), (18, O_int 1 1), (19, O_goto 23), (22, O_int 0 1), (23, O_zret)]
abbrev cut_X7_isReady : List Nat := []
set_option maxRecDepth 100000 in
theorem okc_X7_isReady {E : En} (F : Fx E RX7 cX7_isReady 2 2) (G : Fr E (some .boolean)) : CodOk E aW cod_X7_isReady := by
  unfold CodOk cod_X7_isReady
  refine List.forall_mem_cons.mpr ⟨ok_aload_n F dX7_isReady_0 rfl (by decide), ?_⟩
  refine List.forall_mem_cons.mpr ⟨ok_iload_n F dX7_isReady_1 rfl (by decide), ?_⟩
  refine List.forall_mem_cons.mpr ⟨ok_iconst F dX7_isReady_2 (by decide) (by decide), ?_⟩
  refine List.forall_mem_cons.mpr ⟨ok_callV F spok_X7_of (ln_id aW) rcv_aW (by decide +kernel) (by decide) dX7_isReady_3 (by decide), ?_⟩
  refine List.forall_mem_cons.mpr ⟨ok_iconst F dX7_isReady_6 (by decide) (by decide), ?_⟩
  refine List.forall_mem_cons.mpr ⟨ok_icmp_ne F dX7_isReady_7 (by decide) (by decide) (by decide), ?_⟩
  refine List.forall_mem_cons.mpr ⟨ok_aload_n F dX7_isReady_10 rfl (by decide), ?_⟩
  refine List.forall_mem_cons.mpr ⟨ok_iload_n F dX7_isReady_11 rfl (by decide), ?_⟩
  refine List.forall_mem_cons.mpr ⟨ok_callV F spok_X7_runs (ln_id aW) rcv_aW (by decide +kernel) (by decide) dX7_isReady_12 (by decide), ?_⟩
  refine List.forall_mem_cons.mpr ⟨ok_if_ne F dX7_isReady_15 (by decide) (by decide) (by decide), ?_⟩
  refine List.forall_mem_cons.mpr ⟨ok_iconst F dX7_isReady_18 (by decide) (by decide), ?_⟩
  refine List.forall_mem_cons.mpr ⟨ok_goto F dX7_isReady_19 (by decide) (by decide) (by decide), ?_⟩
  refine List.forall_mem_cons.mpr ⟨ok_iconst F dX7_isReady_22 (by decide) (by decide), ?_⟩
  refine List.forall_mem_cons.mpr ⟨ok_zret F G dX7_isReady_23 (by decide), ?_⟩
  exact fun _ h => absurd h List.not_mem_nil
set_option maxRecDepth 100000 in
theorem w_X7_isReady : (∀ (K : Kt QT) (n : Nat) (L : xL) (st : List Value) (S : QT), nx cod_X7_isReady cut_X7_isReady K (n + 1) 0 L st S = (O_aload 0 1) (nx cod_X7_isReady cut_X7_isReady K n) 0 L st S) ∧
  (∀ (K : Kt QT) (n : Nat) (L : xL) (st : List Value) (S : QT), nx cod_X7_isReady cut_X7_isReady K (n + 1) 1 L st S = (O_iload 1 1) (nx cod_X7_isReady cut_X7_isReady K n) 1 L st S) ∧
  (∀ (K : Kt QT) (n : Nat) (L : xL) (st : List Value) (S : QT), nx cod_X7_isReady cut_X7_isReady K (n + 1) 2 L st S = (O_int 3 1) (nx cod_X7_isReady cut_X7_isReady K n) 2 L st S) ∧
  (∀ (K : Kt QT) (n : Nat) (L : xL) (st : List Value) (S : QT), nx cod_X7_isReady cut_X7_isReady K (n + 1) 3 L st S = (O_callV 2 0 (fun S => S) (fun _ S' => S') sp_X7_of) (nx cod_X7_isReady cut_X7_isReady K n) 3 L st S) ∧
  (∀ (K : Kt QT) (n : Nat) (L : xL) (st : List Value) (S : QT), nx cod_X7_isReady cut_X7_isReady K (n + 1) 6 L st S = (O_int 1 1) (nx cod_X7_isReady cut_X7_isReady K n) 6 L st S) ∧
  (∀ (K : Kt QT) (n : Nat) (L : xL) (st : List Value) (S : QT), nx cod_X7_isReady cut_X7_isReady K (n + 1) 7 L st S = (O_icmp_ne 22) (nx cod_X7_isReady cut_X7_isReady K n) 7 L st S) ∧
  (∀ (K : Kt QT) (n : Nat) (L : xL) (st : List Value) (S : QT), nx cod_X7_isReady cut_X7_isReady K (n + 1) 10 L st S = (O_aload 0 1) (nx cod_X7_isReady cut_X7_isReady K n) 10 L st S) ∧
  (∀ (K : Kt QT) (n : Nat) (L : xL) (st : List Value) (S : QT), nx cod_X7_isReady cut_X7_isReady K (n + 1) 11 L st S = (O_iload 1 1) (nx cod_X7_isReady cut_X7_isReady K n) 11 L st S) ∧
  (∀ (K : Kt QT) (n : Nat) (L : xL) (st : List Value) (S : QT), nx cod_X7_isReady cut_X7_isReady K (n + 1) 12 L st S = (O_callV 1 0 (fun S => S) (fun _ S' => S') sp_X7_runs) (nx cod_X7_isReady cut_X7_isReady K n) 12 L st S) ∧
  (∀ (K : Kt QT) (n : Nat) (L : xL) (st : List Value) (S : QT), nx cod_X7_isReady cut_X7_isReady K (n + 1) 15 L st S = (O_if_ne 22) (nx cod_X7_isReady cut_X7_isReady K n) 15 L st S) ∧
  (∀ (K : Kt QT) (n : Nat) (L : xL) (st : List Value) (S : QT), nx cod_X7_isReady cut_X7_isReady K (n + 1) 18 L st S = (O_int 1 1) (nx cod_X7_isReady cut_X7_isReady K n) 18 L st S) ∧
  (∀ (K : Kt QT) (n : Nat) (L : xL) (st : List Value) (S : QT), nx cod_X7_isReady cut_X7_isReady K (n + 1) 19 L st S = (O_goto 23) (nx cod_X7_isReady cut_X7_isReady K n) 19 L st S) ∧
  (∀ (K : Kt QT) (n : Nat) (L : xL) (st : List Value) (S : QT), nx cod_X7_isReady cut_X7_isReady K (n + 1) 22 L st S = (O_int 0 1) (nx cod_X7_isReady cut_X7_isReady K n) 22 L st S) ∧
  (∀ (K : Kt QT) (n : Nat) (L : xL) (st : List Value) (S : QT), nx cod_X7_isReady cut_X7_isReady K (n + 1) 23 L st S = (O_zret) (nx cod_X7_isReady cut_X7_isReady K n) 23 L st S) ∧
  (∀ (K : Kt QT) (n : Nat) (L : xL) (st : List Value) (S : QT), nx cod_X7_isReady cut_X7_isReady K (n + 1) 100000 L st S = K 100000 L st S) := by
  repeat' apply And.intro
  all_goals (intros; rfl)
set_option maxRecDepth 100000 in
theorem mk_X7_isReady {P P' : QT} {r : Option Value} {p0 : Int32} (body : ∀ E : En, CodOk E aW cod_X7_isReady → Gd E aW 100000 [] r.toList P' → Gd E aW 0 [some (.ref 0), some (.int p0)] [] P) : Con yX7_isReady cX7_isReady 2 (some .boolean) 2 aW [.ref 0, .int p0] P r P' :=
  Con.of (by decide) ((aW_len P').trans (aW_len P).symm) rfl (Nat.le_of_ble_eq_true rfl) (fun E F G hr => body E (okc_X7_isReady F G) hr)
set_option maxRecDepth 10000 in
theorem con_X7_isReady (S : ST) (M : MT) (fl : Bool) (p : Int32) (hp : S.P.inv ∧ S.P.has p = true) : Con yX7_isReady cX7_isReady 2 (some .boolean) 2 aW [.ref 0, .int p] (S, M, fl) (some (.int (bI (S.P.rdy p.toNatClampNeg)))) ((S, M, fl)) := by
  refine mk_X7_isReady (fun E C hr => ?_)
  obtain ⟨i, hi, e1, e2⟩ := PT.has_n hp.1.1 hp.2
  have hv := PT.has_in hp.1.1 hp.2
  rw [e2, rdy_eq hp.1 hi] at hr
  clear hp
  (refine nx_ok C (cuts := cut_X7_isReady) 1000 _ _ _ _ ?_; simp only [w_X7_isReady, ops_eq, xst_eq, call_eq, oK_eq, Option.toList_some, Option.toList_none, List.cons_append, List.nil_append, List.length_cons, List.length_nil, true_and, and_true, Nat.reduceAdd, aW_F, aW_A, aW_P, aW_w, abs_eq, O_asti_eq, v170, cl_eq, ST_id, MT_gs, ST_gs, PT_gs, ZT_gs, NT_gs, ET_gs, se_X7_of, se_X7_runs, bI_eq, v8_eq, cl_eq, hv, e2, get_eq])
  ((repeat' (with_reducible first | apply And.intro | intro _)) <;> simp_all [bI, ST_id, MT_gs, ST_gs, PT_gs, ZT_gs, NT_gs, ET_gs])
def spc_X7_isReady (S : ST) (M : MT) (fl : Bool) (p : Int32) (K : Option Value → QT → Prop) : Prop := (S.P.inv ∧ S.P.has p = true) ∧ K (some (.int (bI (S.P.rdy p.toNatClampNeg)))) ((S, M, fl))
def sp_X7_isReady : Sp QT := fun av q K => match av with
  | [.ref 0, .int p] => spc_X7_isReady q.1 q.2.1 q.2.2 p K
  | _ => False
theorem se_X7_isReady (S : ST) (M : MT) (fl : Bool) (p : Int32) (K : Option Value → QT → Prop) : sp_X7_isReady [.ref 0, .int p] (S, M, fl) K = ((S.P.inv ∧ S.P.has p = true) ∧ K (some (.int (bI (S.P.rdy p.toNatClampNeg)))) ((S, M, fl))) := rfl
theorem spok_X7_isReady : SpOk yX7_isReady cX7_isReady 2 (some .boolean) 2 aW sp_X7_isReady := by
  intro av q K h
  unfold sp_X7_isReady at h
  split at h
  · rename_i p; refine ⟨_, _, ?_, con_X7_isReady q.1 q.2.1 q.2.2 p h.1, h.2⟩; trivial
  · exact h.elim
def cod_X7_isAhead : List (Nat × Op QT) := [(0, O_aload 0 1), (1, O_iload 1 1), (2, O_int 0 1), (3, O_callV 2 0 (fun S => S) (fun _ S' => S') sp_X7_of), (6, O_int 2 1), (7, O_icmp_ne 14), (10, O_int 1 1), (11, O_goto 15), (14, O_int 0 1), (15, O_istore 3 1), (16, O_aload 0 1), (17, O_iload 2 1), (18, O_int 0 1), (19, O_callV 2 0 (fun S => S) (fun _ S' => S') sp_X7_of), (22, O_int 2 1), (23, O_icmp_ne 30), (26, O_int 1 1), (27, O_goto 31), (30, O_int 0 1), (31, O_istore 4 2), (33, O_iload 3 1), (34, O_iload 4 2), (36, O_icmp_eq 61), (39, O_iload 3 1), (40, O_aload 0 1), (41, O_callV 0 0 (fun S => S) (fun _ S' => S') sp_X7_running), (44, O_if_ne 51), (47, O_int 1 1), (48, O_goto 52), (51, O_int 0 1), (52, O_icmp_ne 59), (55, O_int 1 1), (56, O_goto 60), (59, O_int 0 1), (60, O_zret), (61, O_aload 0 1), (62, O_iload 1 1), (63, O_int 5 1), (64, O_callV 2 0 (fun S => S) (fun _ S' => S') sp_X7_of), (67, O_aload 0 1), (68, O_iload 2 1), (69, O_int 5 1), (70, O_callV 2 0 (fun S => S) (fun _ S' => S') sp_X7_of), (73, O_icmp_lt 96), (76, O_aload 0 1), (77, O_iload 1 1), (78, O_int 5 1), (79, O_callV 2 0 (fun S => S) (fun _ S' => S') sp_X7_of), (82, O_aload 0 1), (83, O_iload 2 1), (84, O_int 5 1), (85, O_callV 2 0 (fun S => S) (fun _ S' => S') sp_X7_of), (88, O_icmp_ne 100), (91, O_iload 1 1), (92, O_iload 2 1), (93, O_icmp_ge 100), (96, O_int 1 1), (97, O_goto 101), (100, O_int 0 1), (101, O_zret)]
abbrev cut_X7_isAhead : List Nat := []
set_option maxRecDepth 100000 in
theorem okc_X7_isAhead {E : En} (F : Fx E RX7 cX7_isAhead 5 3) (G : Fr E (some .boolean)) : CodOk E aW cod_X7_isAhead := by
  unfold CodOk cod_X7_isAhead
  refine List.forall_mem_cons.mpr ⟨ok_aload_n F dX7_isAhead_0 rfl (by decide), ?_⟩
  refine List.forall_mem_cons.mpr ⟨ok_iload_n F dX7_isAhead_1 rfl (by decide), ?_⟩
  refine List.forall_mem_cons.mpr ⟨ok_iconst F dX7_isAhead_2 (by decide) (by decide), ?_⟩
  refine List.forall_mem_cons.mpr ⟨ok_callV F spok_X7_of (ln_id aW) rcv_aW (by decide +kernel) (by decide) dX7_isAhead_3 (by decide), ?_⟩
  refine List.forall_mem_cons.mpr ⟨ok_iconst F dX7_isAhead_6 (by decide) (by decide), ?_⟩
  refine List.forall_mem_cons.mpr ⟨ok_icmp_ne F dX7_isAhead_7 (by decide) (by decide) (by decide), ?_⟩
  refine List.forall_mem_cons.mpr ⟨ok_iconst F dX7_isAhead_10 (by decide) (by decide), ?_⟩
  refine List.forall_mem_cons.mpr ⟨ok_goto F dX7_isAhead_11 (by decide) (by decide) (by decide), ?_⟩
  refine List.forall_mem_cons.mpr ⟨ok_iconst F dX7_isAhead_14 (by decide) (by decide), ?_⟩
  refine List.forall_mem_cons.mpr ⟨ok_istore_n F dX7_isAhead_15 rfl (by decide) (by decide), ?_⟩
  refine List.forall_mem_cons.mpr ⟨ok_aload_n F dX7_isAhead_16 rfl (by decide), ?_⟩
  refine List.forall_mem_cons.mpr ⟨ok_iload_n F dX7_isAhead_17 rfl (by decide), ?_⟩
  refine List.forall_mem_cons.mpr ⟨ok_iconst F dX7_isAhead_18 (by decide) (by decide), ?_⟩
  refine List.forall_mem_cons.mpr ⟨ok_callV F spok_X7_of (ln_id aW) rcv_aW (by decide +kernel) (by decide) dX7_isAhead_19 (by decide), ?_⟩
  refine List.forall_mem_cons.mpr ⟨ok_iconst F dX7_isAhead_22 (by decide) (by decide), ?_⟩
  refine List.forall_mem_cons.mpr ⟨ok_icmp_ne F dX7_isAhead_23 (by decide) (by decide) (by decide), ?_⟩
  refine List.forall_mem_cons.mpr ⟨ok_iconst F dX7_isAhead_26 (by decide) (by decide), ?_⟩
  refine List.forall_mem_cons.mpr ⟨ok_goto F dX7_isAhead_27 (by decide) (by decide) (by decide), ?_⟩
  refine List.forall_mem_cons.mpr ⟨ok_iconst F dX7_isAhead_30 (by decide) (by decide), ?_⟩
  refine List.forall_mem_cons.mpr ⟨ok_istore F dX7_isAhead_31 (by decide) (by decide), ?_⟩
  refine List.forall_mem_cons.mpr ⟨ok_iload_n F dX7_isAhead_33 rfl (by decide), ?_⟩
  refine List.forall_mem_cons.mpr ⟨ok_iload F dX7_isAhead_34 (by decide), ?_⟩
  refine List.forall_mem_cons.mpr ⟨ok_icmp_eq F dX7_isAhead_36 (by decide) (by decide) (by decide), ?_⟩
  refine List.forall_mem_cons.mpr ⟨ok_iload_n F dX7_isAhead_39 rfl (by decide), ?_⟩
  refine List.forall_mem_cons.mpr ⟨ok_aload_n F dX7_isAhead_40 rfl (by decide), ?_⟩
  refine List.forall_mem_cons.mpr ⟨ok_callV F spok_X7_running (ln_id aW) rcv_aW (by decide +kernel) (by decide) dX7_isAhead_41 (by decide), ?_⟩
  refine List.forall_mem_cons.mpr ⟨ok_if_ne F dX7_isAhead_44 (by decide) (by decide) (by decide), ?_⟩
  refine List.forall_mem_cons.mpr ⟨ok_iconst F dX7_isAhead_47 (by decide) (by decide), ?_⟩
  refine List.forall_mem_cons.mpr ⟨ok_goto F dX7_isAhead_48 (by decide) (by decide) (by decide), ?_⟩
  refine List.forall_mem_cons.mpr ⟨ok_iconst F dX7_isAhead_51 (by decide) (by decide), ?_⟩
  refine List.forall_mem_cons.mpr ⟨ok_icmp_ne F dX7_isAhead_52 (by decide) (by decide) (by decide), ?_⟩
  refine List.forall_mem_cons.mpr ⟨ok_iconst F dX7_isAhead_55 (by decide) (by decide), ?_⟩
  refine List.forall_mem_cons.mpr ⟨ok_goto F dX7_isAhead_56 (by decide) (by decide) (by decide), ?_⟩
  refine List.forall_mem_cons.mpr ⟨ok_iconst F dX7_isAhead_59 (by decide) (by decide), ?_⟩
  refine List.forall_mem_cons.mpr ⟨ok_zret F G dX7_isAhead_60 (by decide), ?_⟩
  refine List.forall_mem_cons.mpr ⟨ok_aload_n F dX7_isAhead_61 rfl (by decide), ?_⟩
  refine List.forall_mem_cons.mpr ⟨ok_iload_n F dX7_isAhead_62 rfl (by decide), ?_⟩
  refine List.forall_mem_cons.mpr ⟨ok_iconst F dX7_isAhead_63 (by decide) (by decide), ?_⟩
  refine List.forall_mem_cons.mpr ⟨ok_callV F spok_X7_of (ln_id aW) rcv_aW (by decide +kernel) (by decide) dX7_isAhead_64 (by decide), ?_⟩
  refine List.forall_mem_cons.mpr ⟨ok_aload_n F dX7_isAhead_67 rfl (by decide), ?_⟩
  refine List.forall_mem_cons.mpr ⟨ok_iload_n F dX7_isAhead_68 rfl (by decide), ?_⟩
  refine List.forall_mem_cons.mpr ⟨ok_iconst F dX7_isAhead_69 (by decide) (by decide), ?_⟩
  refine List.forall_mem_cons.mpr ⟨ok_callV F spok_X7_of (ln_id aW) rcv_aW (by decide +kernel) (by decide) dX7_isAhead_70 (by decide), ?_⟩
  refine List.forall_mem_cons.mpr ⟨ok_icmp_lt F dX7_isAhead_73 (by decide) (by decide) (by decide), ?_⟩
  refine List.forall_mem_cons.mpr ⟨ok_aload_n F dX7_isAhead_76 rfl (by decide), ?_⟩
  refine List.forall_mem_cons.mpr ⟨ok_iload_n F dX7_isAhead_77 rfl (by decide), ?_⟩
  refine List.forall_mem_cons.mpr ⟨ok_iconst F dX7_isAhead_78 (by decide) (by decide), ?_⟩
  refine List.forall_mem_cons.mpr ⟨ok_callV F spok_X7_of (ln_id aW) rcv_aW (by decide +kernel) (by decide) dX7_isAhead_79 (by decide), ?_⟩
  refine List.forall_mem_cons.mpr ⟨ok_aload_n F dX7_isAhead_82 rfl (by decide), ?_⟩
  refine List.forall_mem_cons.mpr ⟨ok_iload_n F dX7_isAhead_83 rfl (by decide), ?_⟩
  refine List.forall_mem_cons.mpr ⟨ok_iconst F dX7_isAhead_84 (by decide) (by decide), ?_⟩
  refine List.forall_mem_cons.mpr ⟨ok_callV F spok_X7_of (ln_id aW) rcv_aW (by decide +kernel) (by decide) dX7_isAhead_85 (by decide), ?_⟩
  refine List.forall_mem_cons.mpr ⟨ok_icmp_ne F dX7_isAhead_88 (by decide) (by decide) (by decide), ?_⟩
  refine List.forall_mem_cons.mpr ⟨ok_iload_n F dX7_isAhead_91 rfl (by decide), ?_⟩
  refine List.forall_mem_cons.mpr ⟨ok_iload_n F dX7_isAhead_92 rfl (by decide), ?_⟩
  refine List.forall_mem_cons.mpr ⟨ok_icmp_ge F dX7_isAhead_93 (by decide) (by decide) (by decide), ?_⟩
  refine List.forall_mem_cons.mpr ⟨ok_iconst F dX7_isAhead_96 (by decide) (by decide), ?_⟩
  refine List.forall_mem_cons.mpr ⟨ok_goto F dX7_isAhead_97 (by decide) (by decide) (by decide), ?_⟩
  refine List.forall_mem_cons.mpr ⟨ok_iconst F dX7_isAhead_100 (by decide) (by decide), ?_⟩
  refine List.forall_mem_cons.mpr ⟨ok_zret F G dX7_isAhead_101 (by decide), ?_⟩
  exact fun _ h => absurd h List.not_mem_nil
set_option maxRecDepth 100000 in
theorem w_X7_isAhead : (∀ (K : Kt QT) (n : Nat) (L : xL) (st : List Value) (S : QT), nx cod_X7_isAhead cut_X7_isAhead K (n + 1) 0 L st S = (O_aload 0 1) (nx cod_X7_isAhead cut_X7_isAhead K n) 0 L st S) ∧
  (∀ (K : Kt QT) (n : Nat) (L : xL) (st : List Value) (S : QT), nx cod_X7_isAhead cut_X7_isAhead K (n + 1) 1 L st S = (O_iload 1 1) (nx cod_X7_isAhead cut_X7_isAhead K n) 1 L st S) ∧
  (∀ (K : Kt QT) (n : Nat) (L : xL) (st : List Value) (S : QT), nx cod_X7_isAhead cut_X7_isAhead K (n + 1) 2 L st S = (O_int 0 1) (nx cod_X7_isAhead cut_X7_isAhead K n) 2 L st S) ∧
  (∀ (K : Kt QT) (n : Nat) (L : xL) (st : List Value) (S : QT), nx cod_X7_isAhead cut_X7_isAhead K (n + 1) 3 L st S = (O_callV 2 0 (fun S => S) (fun _ S' => S') sp_X7_of) (nx cod_X7_isAhead cut_X7_isAhead K n) 3 L st S) ∧
  (∀ (K : Kt QT) (n : Nat) (L : xL) (st : List Value) (S : QT), nx cod_X7_isAhead cut_X7_isAhead K (n + 1) 6 L st S = (O_int 2 1) (nx cod_X7_isAhead cut_X7_isAhead K n) 6 L st S) ∧
  (∀ (K : Kt QT) (n : Nat) (L : xL) (st : List Value) (S : QT), nx cod_X7_isAhead cut_X7_isAhead K (n + 1) 7 L st S = (O_icmp_ne 14) (nx cod_X7_isAhead cut_X7_isAhead K n) 7 L st S) ∧
  (∀ (K : Kt QT) (n : Nat) (L : xL) (st : List Value) (S : QT), nx cod_X7_isAhead cut_X7_isAhead K (n + 1) 10 L st S = (O_int 1 1) (nx cod_X7_isAhead cut_X7_isAhead K n) 10 L st S) ∧
  (∀ (K : Kt QT) (n : Nat) (L : xL) (st : List Value) (S : QT), nx cod_X7_isAhead cut_X7_isAhead K (n + 1) 11 L st S = (O_goto 15) (nx cod_X7_isAhead cut_X7_isAhead K n) 11 L st S) ∧
  (∀ (K : Kt QT) (n : Nat) (L : xL) (st : List Value) (S : QT), nx cod_X7_isAhead cut_X7_isAhead K (n + 1) 14 L st S = (O_int 0 1) (nx cod_X7_isAhead cut_X7_isAhead K n) 14 L st S) ∧
  (∀ (K : Kt QT) (n : Nat) (L : xL) (st : List Value) (S : QT), nx cod_X7_isAhead cut_X7_isAhead K (n + 1) 15 L st S = (O_istore 3 1) (nx cod_X7_isAhead cut_X7_isAhead K n) 15 L st S) ∧
  (∀ (K : Kt QT) (n : Nat) (L : xL) (st : List Value) (S : QT), nx cod_X7_isAhead cut_X7_isAhead K (n + 1) 16 L st S = (O_aload 0 1) (nx cod_X7_isAhead cut_X7_isAhead K n) 16 L st S) ∧
  (∀ (K : Kt QT) (n : Nat) (L : xL) (st : List Value) (S : QT), nx cod_X7_isAhead cut_X7_isAhead K (n + 1) 17 L st S = (O_iload 2 1) (nx cod_X7_isAhead cut_X7_isAhead K n) 17 L st S) ∧
  (∀ (K : Kt QT) (n : Nat) (L : xL) (st : List Value) (S : QT), nx cod_X7_isAhead cut_X7_isAhead K (n + 1) 18 L st S = (O_int 0 1) (nx cod_X7_isAhead cut_X7_isAhead K n) 18 L st S) ∧
  (∀ (K : Kt QT) (n : Nat) (L : xL) (st : List Value) (S : QT), nx cod_X7_isAhead cut_X7_isAhead K (n + 1) 19 L st S = (O_callV 2 0 (fun S => S) (fun _ S' => S') sp_X7_of) (nx cod_X7_isAhead cut_X7_isAhead K n) 19 L st S) ∧
  (∀ (K : Kt QT) (n : Nat) (L : xL) (st : List Value) (S : QT), nx cod_X7_isAhead cut_X7_isAhead K (n + 1) 22 L st S = (O_int 2 1) (nx cod_X7_isAhead cut_X7_isAhead K n) 22 L st S) ∧
  (∀ (K : Kt QT) (n : Nat) (L : xL) (st : List Value) (S : QT), nx cod_X7_isAhead cut_X7_isAhead K (n + 1) 23 L st S = (O_icmp_ne 30) (nx cod_X7_isAhead cut_X7_isAhead K n) 23 L st S) ∧
  (∀ (K : Kt QT) (n : Nat) (L : xL) (st : List Value) (S : QT), nx cod_X7_isAhead cut_X7_isAhead K (n + 1) 26 L st S = (O_int 1 1) (nx cod_X7_isAhead cut_X7_isAhead K n) 26 L st S) ∧
  (∀ (K : Kt QT) (n : Nat) (L : xL) (st : List Value) (S : QT), nx cod_X7_isAhead cut_X7_isAhead K (n + 1) 27 L st S = (O_goto 31) (nx cod_X7_isAhead cut_X7_isAhead K n) 27 L st S) ∧
  (∀ (K : Kt QT) (n : Nat) (L : xL) (st : List Value) (S : QT), nx cod_X7_isAhead cut_X7_isAhead K (n + 1) 30 L st S = (O_int 0 1) (nx cod_X7_isAhead cut_X7_isAhead K n) 30 L st S) ∧
  (∀ (K : Kt QT) (n : Nat) (L : xL) (st : List Value) (S : QT), nx cod_X7_isAhead cut_X7_isAhead K (n + 1) 31 L st S = (O_istore 4 2) (nx cod_X7_isAhead cut_X7_isAhead K n) 31 L st S) ∧
  (∀ (K : Kt QT) (n : Nat) (L : xL) (st : List Value) (S : QT), nx cod_X7_isAhead cut_X7_isAhead K (n + 1) 33 L st S = (O_iload 3 1) (nx cod_X7_isAhead cut_X7_isAhead K n) 33 L st S) ∧
  (∀ (K : Kt QT) (n : Nat) (L : xL) (st : List Value) (S : QT), nx cod_X7_isAhead cut_X7_isAhead K (n + 1) 34 L st S = (O_iload 4 2) (nx cod_X7_isAhead cut_X7_isAhead K n) 34 L st S) ∧
  (∀ (K : Kt QT) (n : Nat) (L : xL) (st : List Value) (S : QT), nx cod_X7_isAhead cut_X7_isAhead K (n + 1) 36 L st S = (O_icmp_eq 61) (nx cod_X7_isAhead cut_X7_isAhead K n) 36 L st S) ∧
  (∀ (K : Kt QT) (n : Nat) (L : xL) (st : List Value) (S : QT), nx cod_X7_isAhead cut_X7_isAhead K (n + 1) 39 L st S = (O_iload 3 1) (nx cod_X7_isAhead cut_X7_isAhead K n) 39 L st S) ∧
  (∀ (K : Kt QT) (n : Nat) (L : xL) (st : List Value) (S : QT), nx cod_X7_isAhead cut_X7_isAhead K (n + 1) 40 L st S = (O_aload 0 1) (nx cod_X7_isAhead cut_X7_isAhead K n) 40 L st S) ∧
  (∀ (K : Kt QT) (n : Nat) (L : xL) (st : List Value) (S : QT), nx cod_X7_isAhead cut_X7_isAhead K (n + 1) 41 L st S = (O_callV 0 0 (fun S => S) (fun _ S' => S') sp_X7_running) (nx cod_X7_isAhead cut_X7_isAhead K n) 41 L st S) ∧
  (∀ (K : Kt QT) (n : Nat) (L : xL) (st : List Value) (S : QT), nx cod_X7_isAhead cut_X7_isAhead K (n + 1) 44 L st S = (O_if_ne 51) (nx cod_X7_isAhead cut_X7_isAhead K n) 44 L st S) ∧
  (∀ (K : Kt QT) (n : Nat) (L : xL) (st : List Value) (S : QT), nx cod_X7_isAhead cut_X7_isAhead K (n + 1) 47 L st S = (O_int 1 1) (nx cod_X7_isAhead cut_X7_isAhead K n) 47 L st S) ∧
  (∀ (K : Kt QT) (n : Nat) (L : xL) (st : List Value) (S : QT), nx cod_X7_isAhead cut_X7_isAhead K (n + 1) 48 L st S = (O_goto 52) (nx cod_X7_isAhead cut_X7_isAhead K n) 48 L st S) ∧
  (∀ (K : Kt QT) (n : Nat) (L : xL) (st : List Value) (S : QT), nx cod_X7_isAhead cut_X7_isAhead K (n + 1) 51 L st S = (O_int 0 1) (nx cod_X7_isAhead cut_X7_isAhead K n) 51 L st S) ∧
  (∀ (K : Kt QT) (n : Nat) (L : xL) (st : List Value) (S : QT), nx cod_X7_isAhead cut_X7_isAhead K (n + 1) 52 L st S = (O_icmp_ne 59) (nx cod_X7_isAhead cut_X7_isAhead K n) 52 L st S) ∧
  (∀ (K : Kt QT) (n : Nat) (L : xL) (st : List Value) (S : QT), nx cod_X7_isAhead cut_X7_isAhead K (n + 1) 55 L st S = (O_int 1 1) (nx cod_X7_isAhead cut_X7_isAhead K n) 55 L st S) ∧
  (∀ (K : Kt QT) (n : Nat) (L : xL) (st : List Value) (S : QT), nx cod_X7_isAhead cut_X7_isAhead K (n + 1) 56 L st S = (O_goto 60) (nx cod_X7_isAhead cut_X7_isAhead K n) 56 L st S) ∧
  (∀ (K : Kt QT) (n : Nat) (L : xL) (st : List Value) (S : QT), nx cod_X7_isAhead cut_X7_isAhead K (n + 1) 59 L st S = (O_int 0 1) (nx cod_X7_isAhead cut_X7_isAhead K n) 59 L st S) ∧
  (∀ (K : Kt QT) (n : Nat) (L : xL) (st : List Value) (S : QT), nx cod_X7_isAhead cut_X7_isAhead K (n + 1) 60 L st S = (O_zret) (nx cod_X7_isAhead cut_X7_isAhead K n) 60 L st S) ∧
  (∀ (K : Kt QT) (n : Nat) (L : xL) (st : List Value) (S : QT), nx cod_X7_isAhead cut_X7_isAhead K (n + 1) 61 L st S = (O_aload 0 1) (nx cod_X7_isAhead cut_X7_isAhead K n) 61 L st S) ∧
  (∀ (K : Kt QT) (n : Nat) (L : xL) (st : List Value) (S : QT), nx cod_X7_isAhead cut_X7_isAhead K (n + 1) 62 L st S = (O_iload 1 1) (nx cod_X7_isAhead cut_X7_isAhead K n) 62 L st S) ∧
  (∀ (K : Kt QT) (n : Nat) (L : xL) (st : List Value) (S : QT), nx cod_X7_isAhead cut_X7_isAhead K (n + 1) 63 L st S = (O_int 5 1) (nx cod_X7_isAhead cut_X7_isAhead K n) 63 L st S) ∧
  (∀ (K : Kt QT) (n : Nat) (L : xL) (st : List Value) (S : QT), nx cod_X7_isAhead cut_X7_isAhead K (n + 1) 64 L st S = (O_callV 2 0 (fun S => S) (fun _ S' => S') sp_X7_of) (nx cod_X7_isAhead cut_X7_isAhead K n) 64 L st S) ∧
  (∀ (K : Kt QT) (n : Nat) (L : xL) (st : List Value) (S : QT), nx cod_X7_isAhead cut_X7_isAhead K (n + 1) 67 L st S = (O_aload 0 1) (nx cod_X7_isAhead cut_X7_isAhead K n) 67 L st S) ∧
  (∀ (K : Kt QT) (n : Nat) (L : xL) (st : List Value) (S : QT), nx cod_X7_isAhead cut_X7_isAhead K (n + 1) 68 L st S = (O_iload 2 1) (nx cod_X7_isAhead cut_X7_isAhead K n) 68 L st S) ∧
  (∀ (K : Kt QT) (n : Nat) (L : xL) (st : List Value) (S : QT), nx cod_X7_isAhead cut_X7_isAhead K (n + 1) 69 L st S = (O_int 5 1) (nx cod_X7_isAhead cut_X7_isAhead K n) 69 L st S) ∧
  (∀ (K : Kt QT) (n : Nat) (L : xL) (st : List Value) (S : QT), nx cod_X7_isAhead cut_X7_isAhead K (n + 1) 70 L st S = (O_callV 2 0 (fun S => S) (fun _ S' => S') sp_X7_of) (nx cod_X7_isAhead cut_X7_isAhead K n) 70 L st S) ∧
  (∀ (K : Kt QT) (n : Nat) (L : xL) (st : List Value) (S : QT), nx cod_X7_isAhead cut_X7_isAhead K (n + 1) 73 L st S = (O_icmp_lt 96) (nx cod_X7_isAhead cut_X7_isAhead K n) 73 L st S) ∧
  (∀ (K : Kt QT) (n : Nat) (L : xL) (st : List Value) (S : QT), nx cod_X7_isAhead cut_X7_isAhead K (n + 1) 76 L st S = (O_aload 0 1) (nx cod_X7_isAhead cut_X7_isAhead K n) 76 L st S) ∧
  (∀ (K : Kt QT) (n : Nat) (L : xL) (st : List Value) (S : QT), nx cod_X7_isAhead cut_X7_isAhead K (n + 1) 77 L st S = (O_iload 1 1) (nx cod_X7_isAhead cut_X7_isAhead K n) 77 L st S) ∧
  (∀ (K : Kt QT) (n : Nat) (L : xL) (st : List Value) (S : QT), nx cod_X7_isAhead cut_X7_isAhead K (n + 1) 78 L st S = (O_int 5 1) (nx cod_X7_isAhead cut_X7_isAhead K n) 78 L st S) ∧
  (∀ (K : Kt QT) (n : Nat) (L : xL) (st : List Value) (S : QT), nx cod_X7_isAhead cut_X7_isAhead K (n + 1) 79 L st S = (O_callV 2 0 (fun S => S) (fun _ S' => S') sp_X7_of) (nx cod_X7_isAhead cut_X7_isAhead K n) 79 L st S) ∧
  (∀ (K : Kt QT) (n : Nat) (L : xL) (st : List Value) (S : QT), nx cod_X7_isAhead cut_X7_isAhead K (n + 1) 82 L st S = (O_aload 0 1) (nx cod_X7_isAhead cut_X7_isAhead K n) 82 L st S) ∧
  (∀ (K : Kt QT) (n : Nat) (L : xL) (st : List Value) (S : QT), nx cod_X7_isAhead cut_X7_isAhead K (n + 1) 83 L st S = (O_iload 2 1) (nx cod_X7_isAhead cut_X7_isAhead K n) 83 L st S) ∧
  (∀ (K : Kt QT) (n : Nat) (L : xL) (st : List Value) (S : QT), nx cod_X7_isAhead cut_X7_isAhead K (n + 1) 84 L st S = (O_int 5 1) (nx cod_X7_isAhead cut_X7_isAhead K n) 84 L st S) ∧
  (∀ (K : Kt QT) (n : Nat) (L : xL) (st : List Value) (S : QT), nx cod_X7_isAhead cut_X7_isAhead K (n + 1) 85 L st S = (O_callV 2 0 (fun S => S) (fun _ S' => S') sp_X7_of) (nx cod_X7_isAhead cut_X7_isAhead K n) 85 L st S) ∧
  (∀ (K : Kt QT) (n : Nat) (L : xL) (st : List Value) (S : QT), nx cod_X7_isAhead cut_X7_isAhead K (n + 1) 88 L st S = (O_icmp_ne 100) (nx cod_X7_isAhead cut_X7_isAhead K n) 88 L st S) ∧
  (∀ (K : Kt QT) (n : Nat) (L : xL) (st : List Value) (S : QT), nx cod_X7_isAhead cut_X7_isAhead K (n + 1) 91 L st S = (O_iload 1 1) (nx cod_X7_isAhead cut_X7_isAhead K n) 91 L st S) ∧
  (∀ (K : Kt QT) (n : Nat) (L : xL) (st : List Value) (S : QT), nx cod_X7_isAhead cut_X7_isAhead K (n + 1) 92 L st S = (O_iload 2 1) (nx cod_X7_isAhead cut_X7_isAhead K n) 92 L st S) ∧
  (∀ (K : Kt QT) (n : Nat) (L : xL) (st : List Value) (S : QT), nx cod_X7_isAhead cut_X7_isAhead K (n + 1) 93 L st S = (O_icmp_ge 100) (nx cod_X7_isAhead cut_X7_isAhead K n) 93 L st S) ∧
  (∀ (K : Kt QT) (n : Nat) (L : xL) (st : List Value) (S : QT), nx cod_X7_isAhead cut_X7_isAhead K (n + 1) 96 L st S = (O_int 1 1) (nx cod_X7_isAhead cut_X7_isAhead K n) 96 L st S) ∧
  (∀ (K : Kt QT) (n : Nat) (L : xL) (st : List Value) (S : QT), nx cod_X7_isAhead cut_X7_isAhead K (n + 1) 97 L st S = (O_goto 101) (nx cod_X7_isAhead cut_X7_isAhead K n) 97 L st S) ∧
  (∀ (K : Kt QT) (n : Nat) (L : xL) (st : List Value) (S : QT), nx cod_X7_isAhead cut_X7_isAhead K (n + 1) 100 L st S = (O_int 0 1) (nx cod_X7_isAhead cut_X7_isAhead K n) 100 L st S) ∧
  (∀ (K : Kt QT) (n : Nat) (L : xL) (st : List Value) (S : QT), nx cod_X7_isAhead cut_X7_isAhead K (n + 1) 101 L st S = (O_zret) (nx cod_X7_isAhead cut_X7_isAhead K n) 101 L st S) ∧
  (∀ (K : Kt QT) (n : Nat) (L : xL) (st : List Value) (S : QT), nx cod_X7_isAhead cut_X7_isAhead K (n + 1) 100000 L st S = K 100000 L st S) := by
  repeat' apply And.intro
  all_goals (intros; rfl)
set_option maxRecDepth 100000 in
theorem mk_X7_isAhead {P P' : QT} {r : Option Value} {p0 : Int32} {p1 : Int32} (body : ∀ E : En, CodOk E aW cod_X7_isAhead → Gd E aW 100000 [] r.toList P' → Gd E aW 0 [some (.ref 0), some (.int p0), some (.int p1), none, none] [] P) : Con yX7_isAhead cX7_isAhead 5 (some .boolean) 3 aW [.ref 0, .int p0, .int p1] P r P' :=
  Con.of (by decide) ((aW_len P').trans (aW_len P).symm) rfl (Nat.le_of_ble_eq_true rfl) (fun E F G hr => body E (okc_X7_isAhead F G) hr)
set_option maxRecDepth 10000 in
theorem con_X7_isAhead (S : ST) (M : MT) (fl : Bool) (x : Int32) (y : Int32) (hp : S.P.ok ∧ vp_in x 6 ∧ vp_in y 6) : Con yX7_isAhead cX7_isAhead 5 (some .boolean) 3 aW [.ref 0, .int x, .int y] (S, M, fl) (some (.int (bI (S.P.ahead x.toNatClampNeg y.toNatClampNeg S.P.noRun)))) ((S, M, fl)) := by
  refine mk_X7_isAhead (fun E C hr => ?_)
  have hxy : x < y ↔ x.toNatClampNeg < y.toNatClampNeg := by
    obtain ⟨a, ha, rfl⟩ := vp_in_of hp.2.1 (by omega)
    obtain ⟨b, hb, rfl⟩ := vp_in_of hp.2.2 (by omega)
    rw [nI_clamp (by omega), nI_clamp (by omega), nI_ltI (by omega) (by omega)]
  have h1 := hp.1
  have h2 := hp.2.1
  have h3 := hp.2.2
  have hne : S.P.minutes x.toNatClampNeg < S.P.minutes y.toNatClampNeg → ¬ S.P.minutes x.toNatClampNeg = S.P.minutes y.toNatClampNeg := fun h e => absurd (e ▸ h) Int32.lt_irrefl
  clear hp
  (refine nx_ok C (cuts := cut_X7_isAhead) 1000 _ _ _ _ ?_; simp only [w_X7_isAhead, ops_eq, xst_eq, call_eq, oK_eq, Option.toList_some, Option.toList_none, List.cons_append, List.nil_append, List.length_cons, List.length_nil, true_and, and_true, Nat.reduceAdd, aW_F, aW_A, aW_P, aW_w, abs_eq, O_asti_eq, v170, cl_eq, ST_id, MT_gs, ST_gs, PT_gs, ZT_gs, NT_gs, ET_gs, se_X7_of, se_X7_running, bI_eq, v8_eq, cl_eq, h1, h2, h3, hxy, get_eq])
  ((repeat' (with_reducible first | apply And.intro | intro _)) <;> simp_all [PT.ahead, PT.noRun, bI, ST_id, MT_gs, ST_gs, PT_gs, ZT_gs, NT_gs, ET_gs])
def spc_X7_isAhead (S : ST) (M : MT) (fl : Bool) (x : Int32) (y : Int32) (K : Option Value → QT → Prop) : Prop := (S.P.ok ∧ vp_in x 6 ∧ vp_in y 6) ∧ K (some (.int (bI (S.P.ahead x.toNatClampNeg y.toNatClampNeg S.P.noRun)))) ((S, M, fl))
def sp_X7_isAhead : Sp QT := fun av q K => match av with
  | [.ref 0, .int x, .int y] => spc_X7_isAhead q.1 q.2.1 q.2.2 x y K
  | _ => False
theorem se_X7_isAhead (S : ST) (M : MT) (fl : Bool) (x : Int32) (y : Int32) (K : Option Value → QT → Prop) : sp_X7_isAhead [.ref 0, .int x, .int y] (S, M, fl) K = ((S.P.ok ∧ vp_in x 6 ∧ vp_in y 6) ∧ K (some (.int (bI (S.P.ahead x.toNatClampNeg y.toNatClampNeg S.P.noRun)))) ((S, M, fl))) := rfl
theorem spok_X7_isAhead : SpOk yX7_isAhead cX7_isAhead 5 (some .boolean) 3 aW sp_X7_isAhead := by
  intro av q K h
  unfold sp_X7_isAhead at h
  split at h
  · rename_i x y; refine ⟨_, _, ?_, con_X7_isAhead q.1 q.2.1 q.2.2 x y h.1, h.2⟩; trivial
  · exact h.elim
theorem ahead_self (S : PT) (i : Nat) (nr : Int32) : S.ahead i i nr = false := by
  unfold PT.ahead
  simp
def cod_X7_ready : List (Nat × Op QT) := [(0, O_int 0 1), (1, O_istore 2 1), (2, O_iload 2 1), (3, O_aload 0 1), (4, O_getf aW 7 0), (7, O_int 14 2), (9, O_ald aW 0), (10, O_icmp_ge 90), (13, O_int 0 1), (14, O_istore 3 1), (15, O_int 0 1), (16, O_istore 4 2), (18, O_iload 4 2), (20, O_aload 0 1), (21, O_getf aW 7 0), (24, O_int 14 2), (26, O_ald aW 0), (27, O_icmp_ge 69), (30, O_iload 3 1), (31, O_iload 4 2), (33, O_iload 2 1), (34, O_icmp_eq 60), (37, O_aload 0 1), (38, O_iload 4 2), (40, O_callV 1 0 (fun S => S) (fun _ S' => S') sp_X7_isReady), (43, O_if_eq 60), (46, O_aload 0 1), (47, O_iload 4 2), (49, O_iload 2 1), (50, O_callV 2 0 (fun S => S) (fun _ S' => S') sp_X7_isAhead), (53, O_if_eq 60), (56, O_int 1 1), (57, O_goto 61), (60, O_int 0 1), (61, O_iadd), (62, O_istore 3 1), (63, O_iinc 4 1), (66, O_goto 18), (69, O_aload 0 1), (70, O_iload 2 1), (71, O_callV 1 0 (fun S => S) (fun _ S' => S') sp_X7_isReady), (74, O_if_eq 84), (77, O_iload 3 1), (78, O_iload 1 1), (79, O_icmp_ne 84), (82, O_iload 2 1), (83, O_iret), (84, O_iinc 2 1), (87, O_goto 2), (90, O_int (-1) 1), (91, O_iret)]
abbrev cut_X7_ready : List Nat := [2, 18]
set_option maxRecDepth 100000 in
theorem okc_X7_ready {E : En} (F : Fx E RX7 cX7_ready 5 4) (G : Fr E (some .int)) : CodOk E aW cod_X7_ready := by
  unfold CodOk cod_X7_ready
  refine List.forall_mem_cons.mpr ⟨ok_iconst F dX7_ready_0 (by decide) (by decide), ?_⟩
  refine List.forall_mem_cons.mpr ⟨ok_istore_n F dX7_ready_1 rfl (by decide) (by decide), ?_⟩
  refine List.forall_mem_cons.mpr ⟨ok_iload_n F dX7_ready_2 rfl (by decide), ?_⟩
  refine List.forall_mem_cons.mpr ⟨ok_aload_n F dX7_ready_3 rfl (by decide), ?_⟩
  refine List.forall_mem_cons.mpr ⟨ok_getf F flX7_7 dX7_ready_4 (by decide), ?_⟩
  refine List.forall_mem_cons.mpr ⟨ok_bipush F dX7_ready_7 (by decide) (by decide), ?_⟩
  refine List.forall_mem_cons.mpr ⟨ok_iald F dX7_ready_9 (by decide), ?_⟩
  refine List.forall_mem_cons.mpr ⟨ok_icmp_ge F dX7_ready_10 (by decide) (by decide) (by decide), ?_⟩
  refine List.forall_mem_cons.mpr ⟨ok_iconst F dX7_ready_13 (by decide) (by decide), ?_⟩
  refine List.forall_mem_cons.mpr ⟨ok_istore_n F dX7_ready_14 rfl (by decide) (by decide), ?_⟩
  refine List.forall_mem_cons.mpr ⟨ok_iconst F dX7_ready_15 (by decide) (by decide), ?_⟩
  refine List.forall_mem_cons.mpr ⟨ok_istore F dX7_ready_16 (by decide) (by decide), ?_⟩
  refine List.forall_mem_cons.mpr ⟨ok_iload F dX7_ready_18 (by decide), ?_⟩
  refine List.forall_mem_cons.mpr ⟨ok_aload_n F dX7_ready_20 rfl (by decide), ?_⟩
  refine List.forall_mem_cons.mpr ⟨ok_getf F flX7_7 dX7_ready_21 (by decide), ?_⟩
  refine List.forall_mem_cons.mpr ⟨ok_bipush F dX7_ready_24 (by decide) (by decide), ?_⟩
  refine List.forall_mem_cons.mpr ⟨ok_iald F dX7_ready_26 (by decide), ?_⟩
  refine List.forall_mem_cons.mpr ⟨ok_icmp_ge F dX7_ready_27 (by decide) (by decide) (by decide), ?_⟩
  refine List.forall_mem_cons.mpr ⟨ok_iload_n F dX7_ready_30 rfl (by decide), ?_⟩
  refine List.forall_mem_cons.mpr ⟨ok_iload F dX7_ready_31 (by decide), ?_⟩
  refine List.forall_mem_cons.mpr ⟨ok_iload_n F dX7_ready_33 rfl (by decide), ?_⟩
  refine List.forall_mem_cons.mpr ⟨ok_icmp_eq F dX7_ready_34 (by decide) (by decide) (by decide), ?_⟩
  refine List.forall_mem_cons.mpr ⟨ok_aload_n F dX7_ready_37 rfl (by decide), ?_⟩
  refine List.forall_mem_cons.mpr ⟨ok_iload F dX7_ready_38 (by decide), ?_⟩
  refine List.forall_mem_cons.mpr ⟨ok_callV F spok_X7_isReady (ln_id aW) rcv_aW (by decide +kernel) (by decide) dX7_ready_40 (by decide), ?_⟩
  refine List.forall_mem_cons.mpr ⟨ok_if_eq F dX7_ready_43 (by decide) (by decide) (by decide), ?_⟩
  refine List.forall_mem_cons.mpr ⟨ok_aload_n F dX7_ready_46 rfl (by decide), ?_⟩
  refine List.forall_mem_cons.mpr ⟨ok_iload F dX7_ready_47 (by decide), ?_⟩
  refine List.forall_mem_cons.mpr ⟨ok_iload_n F dX7_ready_49 rfl (by decide), ?_⟩
  refine List.forall_mem_cons.mpr ⟨ok_callV F spok_X7_isAhead (ln_id aW) rcv_aW (by decide +kernel) (by decide) dX7_ready_50 (by decide), ?_⟩
  refine List.forall_mem_cons.mpr ⟨ok_if_eq F dX7_ready_53 (by decide) (by decide) (by decide), ?_⟩
  refine List.forall_mem_cons.mpr ⟨ok_iconst F dX7_ready_56 (by decide) (by decide), ?_⟩
  refine List.forall_mem_cons.mpr ⟨ok_goto F dX7_ready_57 (by decide) (by decide) (by decide), ?_⟩
  refine List.forall_mem_cons.mpr ⟨ok_iconst F dX7_ready_60 (by decide) (by decide), ?_⟩
  refine List.forall_mem_cons.mpr ⟨ok_iadd F dX7_ready_61 (by decide), ?_⟩
  refine List.forall_mem_cons.mpr ⟨ok_istore_n F dX7_ready_62 rfl (by decide) (by decide), ?_⟩
  refine List.forall_mem_cons.mpr ⟨ok_iinc F dX7_ready_63 (by decide) (by decide) (by decide), ?_⟩
  refine List.forall_mem_cons.mpr ⟨ok_goto F dX7_ready_66 (by decide) (by decide) (by decide), ?_⟩
  refine List.forall_mem_cons.mpr ⟨ok_aload_n F dX7_ready_69 rfl (by decide), ?_⟩
  refine List.forall_mem_cons.mpr ⟨ok_iload_n F dX7_ready_70 rfl (by decide), ?_⟩
  refine List.forall_mem_cons.mpr ⟨ok_callV F spok_X7_isReady (ln_id aW) rcv_aW (by decide +kernel) (by decide) dX7_ready_71 (by decide), ?_⟩
  refine List.forall_mem_cons.mpr ⟨ok_if_eq F dX7_ready_74 (by decide) (by decide) (by decide), ?_⟩
  refine List.forall_mem_cons.mpr ⟨ok_iload_n F dX7_ready_77 rfl (by decide), ?_⟩
  refine List.forall_mem_cons.mpr ⟨ok_iload_n F dX7_ready_78 rfl (by decide), ?_⟩
  refine List.forall_mem_cons.mpr ⟨ok_icmp_ne F dX7_ready_79 (by decide) (by decide) (by decide), ?_⟩
  refine List.forall_mem_cons.mpr ⟨ok_iload_n F dX7_ready_82 rfl (by decide), ?_⟩
  refine List.forall_mem_cons.mpr ⟨ok_iret F G dX7_ready_83 (by decide), ?_⟩
  refine List.forall_mem_cons.mpr ⟨ok_iinc F dX7_ready_84 (by decide) (by decide) (by decide), ?_⟩
  refine List.forall_mem_cons.mpr ⟨ok_goto F dX7_ready_87 (by decide) (by decide) (by decide), ?_⟩
  refine List.forall_mem_cons.mpr ⟨ok_iconst F dX7_ready_90 (by decide) (by decide), ?_⟩
  refine List.forall_mem_cons.mpr ⟨ok_iret F G dX7_ready_91 (by decide), ?_⟩
  exact fun _ h => absurd h List.not_mem_nil
set_option maxRecDepth 100000 in
theorem w_X7_ready : (∀ (K : Kt QT) (n : Nat) (L : xL) (st : List Value) (S : QT), nx cod_X7_ready cut_X7_ready K (n + 1) 0 L st S = (O_int 0 1) (nx cod_X7_ready cut_X7_ready K n) 0 L st S) ∧
  (∀ (K : Kt QT) (n : Nat) (L : xL) (st : List Value) (S : QT), nx cod_X7_ready cut_X7_ready K (n + 1) 1 L st S = (O_istore 2 1) (nx cod_X7_ready cut_X7_ready K n) 1 L st S) ∧
  (∀ (K : Kt QT) (n : Nat) (L : xL) (st : List Value) (S : QT), nx cod_X7_ready cut_X7_ready K (n + 1) 2 L st S = K 2 L st S) ∧
  (∀ (K : Kt QT) (n : Nat) (L : xL) (st : List Value) (S : QT), nx1 cod_X7_ready cut_X7_ready K n 2 L st S = (O_iload 2 1) (nx cod_X7_ready cut_X7_ready K n) 2 L st S) ∧
  (∀ (K : Kt QT) (n : Nat) (L : xL) (st : List Value) (S : QT), nx cod_X7_ready cut_X7_ready K (n + 1) 3 L st S = (O_aload 0 1) (nx cod_X7_ready cut_X7_ready K n) 3 L st S) ∧
  (∀ (K : Kt QT) (n : Nat) (L : xL) (st : List Value) (S : QT), nx cod_X7_ready cut_X7_ready K (n + 1) 4 L st S = (O_getf aW 7 0) (nx cod_X7_ready cut_X7_ready K n) 4 L st S) ∧
  (∀ (K : Kt QT) (n : Nat) (L : xL) (st : List Value) (S : QT), nx cod_X7_ready cut_X7_ready K (n + 1) 7 L st S = (O_int 14 2) (nx cod_X7_ready cut_X7_ready K n) 7 L st S) ∧
  (∀ (K : Kt QT) (n : Nat) (L : xL) (st : List Value) (S : QT), nx cod_X7_ready cut_X7_ready K (n + 1) 9 L st S = (O_ald aW 0) (nx cod_X7_ready cut_X7_ready K n) 9 L st S) ∧
  (∀ (K : Kt QT) (n : Nat) (L : xL) (st : List Value) (S : QT), nx cod_X7_ready cut_X7_ready K (n + 1) 10 L st S = (O_icmp_ge 90) (nx cod_X7_ready cut_X7_ready K n) 10 L st S) ∧
  (∀ (K : Kt QT) (n : Nat) (L : xL) (st : List Value) (S : QT), nx cod_X7_ready cut_X7_ready K (n + 1) 13 L st S = (O_int 0 1) (nx cod_X7_ready cut_X7_ready K n) 13 L st S) ∧
  (∀ (K : Kt QT) (n : Nat) (L : xL) (st : List Value) (S : QT), nx cod_X7_ready cut_X7_ready K (n + 1) 14 L st S = (O_istore 3 1) (nx cod_X7_ready cut_X7_ready K n) 14 L st S) ∧
  (∀ (K : Kt QT) (n : Nat) (L : xL) (st : List Value) (S : QT), nx cod_X7_ready cut_X7_ready K (n + 1) 15 L st S = (O_int 0 1) (nx cod_X7_ready cut_X7_ready K n) 15 L st S) ∧
  (∀ (K : Kt QT) (n : Nat) (L : xL) (st : List Value) (S : QT), nx cod_X7_ready cut_X7_ready K (n + 1) 16 L st S = (O_istore 4 2) (nx cod_X7_ready cut_X7_ready K n) 16 L st S) ∧
  (∀ (K : Kt QT) (n : Nat) (L : xL) (st : List Value) (S : QT), nx cod_X7_ready cut_X7_ready K (n + 1) 18 L st S = K 18 L st S) ∧
  (∀ (K : Kt QT) (n : Nat) (L : xL) (st : List Value) (S : QT), nx1 cod_X7_ready cut_X7_ready K n 18 L st S = (O_iload 4 2) (nx cod_X7_ready cut_X7_ready K n) 18 L st S) ∧
  (∀ (K : Kt QT) (n : Nat) (L : xL) (st : List Value) (S : QT), nx cod_X7_ready cut_X7_ready K (n + 1) 20 L st S = (O_aload 0 1) (nx cod_X7_ready cut_X7_ready K n) 20 L st S) ∧
  (∀ (K : Kt QT) (n : Nat) (L : xL) (st : List Value) (S : QT), nx cod_X7_ready cut_X7_ready K (n + 1) 21 L st S = (O_getf aW 7 0) (nx cod_X7_ready cut_X7_ready K n) 21 L st S) ∧
  (∀ (K : Kt QT) (n : Nat) (L : xL) (st : List Value) (S : QT), nx cod_X7_ready cut_X7_ready K (n + 1) 24 L st S = (O_int 14 2) (nx cod_X7_ready cut_X7_ready K n) 24 L st S) ∧
  (∀ (K : Kt QT) (n : Nat) (L : xL) (st : List Value) (S : QT), nx cod_X7_ready cut_X7_ready K (n + 1) 26 L st S = (O_ald aW 0) (nx cod_X7_ready cut_X7_ready K n) 26 L st S) ∧
  (∀ (K : Kt QT) (n : Nat) (L : xL) (st : List Value) (S : QT), nx cod_X7_ready cut_X7_ready K (n + 1) 27 L st S = (O_icmp_ge 69) (nx cod_X7_ready cut_X7_ready K n) 27 L st S) ∧
  (∀ (K : Kt QT) (n : Nat) (L : xL) (st : List Value) (S : QT), nx cod_X7_ready cut_X7_ready K (n + 1) 30 L st S = (O_iload 3 1) (nx cod_X7_ready cut_X7_ready K n) 30 L st S) ∧
  (∀ (K : Kt QT) (n : Nat) (L : xL) (st : List Value) (S : QT), nx cod_X7_ready cut_X7_ready K (n + 1) 31 L st S = (O_iload 4 2) (nx cod_X7_ready cut_X7_ready K n) 31 L st S) ∧
  (∀ (K : Kt QT) (n : Nat) (L : xL) (st : List Value) (S : QT), nx cod_X7_ready cut_X7_ready K (n + 1) 33 L st S = (O_iload 2 1) (nx cod_X7_ready cut_X7_ready K n) 33 L st S) ∧
  (∀ (K : Kt QT) (n : Nat) (L : xL) (st : List Value) (S : QT), nx cod_X7_ready cut_X7_ready K (n + 1) 34 L st S = (O_icmp_eq 60) (nx cod_X7_ready cut_X7_ready K n) 34 L st S) ∧
  (∀ (K : Kt QT) (n : Nat) (L : xL) (st : List Value) (S : QT), nx cod_X7_ready cut_X7_ready K (n + 1) 37 L st S = (O_aload 0 1) (nx cod_X7_ready cut_X7_ready K n) 37 L st S) ∧
  (∀ (K : Kt QT) (n : Nat) (L : xL) (st : List Value) (S : QT), nx cod_X7_ready cut_X7_ready K (n + 1) 38 L st S = (O_iload 4 2) (nx cod_X7_ready cut_X7_ready K n) 38 L st S) ∧
  (∀ (K : Kt QT) (n : Nat) (L : xL) (st : List Value) (S : QT), nx cod_X7_ready cut_X7_ready K (n + 1) 40 L st S = (O_callV 1 0 (fun S => S) (fun _ S' => S') sp_X7_isReady) (nx cod_X7_ready cut_X7_ready K n) 40 L st S) ∧
  (∀ (K : Kt QT) (n : Nat) (L : xL) (st : List Value) (S : QT), nx cod_X7_ready cut_X7_ready K (n + 1) 43 L st S = (O_if_eq 60) (nx cod_X7_ready cut_X7_ready K n) 43 L st S) ∧
  (∀ (K : Kt QT) (n : Nat) (L : xL) (st : List Value) (S : QT), nx cod_X7_ready cut_X7_ready K (n + 1) 46 L st S = (O_aload 0 1) (nx cod_X7_ready cut_X7_ready K n) 46 L st S) ∧
  (∀ (K : Kt QT) (n : Nat) (L : xL) (st : List Value) (S : QT), nx cod_X7_ready cut_X7_ready K (n + 1) 47 L st S = (O_iload 4 2) (nx cod_X7_ready cut_X7_ready K n) 47 L st S) ∧
  (∀ (K : Kt QT) (n : Nat) (L : xL) (st : List Value) (S : QT), nx cod_X7_ready cut_X7_ready K (n + 1) 49 L st S = (O_iload 2 1) (nx cod_X7_ready cut_X7_ready K n) 49 L st S) ∧
  (∀ (K : Kt QT) (n : Nat) (L : xL) (st : List Value) (S : QT), nx cod_X7_ready cut_X7_ready K (n + 1) 50 L st S = (O_callV 2 0 (fun S => S) (fun _ S' => S') sp_X7_isAhead) (nx cod_X7_ready cut_X7_ready K n) 50 L st S) ∧
  (∀ (K : Kt QT) (n : Nat) (L : xL) (st : List Value) (S : QT), nx cod_X7_ready cut_X7_ready K (n + 1) 53 L st S = (O_if_eq 60) (nx cod_X7_ready cut_X7_ready K n) 53 L st S) ∧
  (∀ (K : Kt QT) (n : Nat) (L : xL) (st : List Value) (S : QT), nx cod_X7_ready cut_X7_ready K (n + 1) 56 L st S = (O_int 1 1) (nx cod_X7_ready cut_X7_ready K n) 56 L st S) ∧
  (∀ (K : Kt QT) (n : Nat) (L : xL) (st : List Value) (S : QT), nx cod_X7_ready cut_X7_ready K (n + 1) 57 L st S = (O_goto 61) (nx cod_X7_ready cut_X7_ready K n) 57 L st S) ∧
  (∀ (K : Kt QT) (n : Nat) (L : xL) (st : List Value) (S : QT), nx cod_X7_ready cut_X7_ready K (n + 1) 60 L st S = (O_int 0 1) (nx cod_X7_ready cut_X7_ready K n) 60 L st S) ∧
  (∀ (K : Kt QT) (n : Nat) (L : xL) (st : List Value) (S : QT), nx cod_X7_ready cut_X7_ready K (n + 1) 61 L st S = (O_iadd) (nx cod_X7_ready cut_X7_ready K n) 61 L st S) ∧
  (∀ (K : Kt QT) (n : Nat) (L : xL) (st : List Value) (S : QT), nx cod_X7_ready cut_X7_ready K (n + 1) 62 L st S = (O_istore 3 1) (nx cod_X7_ready cut_X7_ready K n) 62 L st S) ∧
  (∀ (K : Kt QT) (n : Nat) (L : xL) (st : List Value) (S : QT), nx cod_X7_ready cut_X7_ready K (n + 1) 63 L st S = (O_iinc 4 1) (nx cod_X7_ready cut_X7_ready K n) 63 L st S) ∧
  (∀ (K : Kt QT) (n : Nat) (L : xL) (st : List Value) (S : QT), nx cod_X7_ready cut_X7_ready K (n + 1) 66 L st S = (O_goto 18) (nx cod_X7_ready cut_X7_ready K n) 66 L st S) ∧
  (∀ (K : Kt QT) (n : Nat) (L : xL) (st : List Value) (S : QT), nx cod_X7_ready cut_X7_ready K (n + 1) 69 L st S = (O_aload 0 1) (nx cod_X7_ready cut_X7_ready K n) 69 L st S) ∧
  (∀ (K : Kt QT) (n : Nat) (L : xL) (st : List Value) (S : QT), nx cod_X7_ready cut_X7_ready K (n + 1) 70 L st S = (O_iload 2 1) (nx cod_X7_ready cut_X7_ready K n) 70 L st S) ∧
  (∀ (K : Kt QT) (n : Nat) (L : xL) (st : List Value) (S : QT), nx cod_X7_ready cut_X7_ready K (n + 1) 71 L st S = (O_callV 1 0 (fun S => S) (fun _ S' => S') sp_X7_isReady) (nx cod_X7_ready cut_X7_ready K n) 71 L st S) ∧
  (∀ (K : Kt QT) (n : Nat) (L : xL) (st : List Value) (S : QT), nx cod_X7_ready cut_X7_ready K (n + 1) 74 L st S = (O_if_eq 84) (nx cod_X7_ready cut_X7_ready K n) 74 L st S) ∧
  (∀ (K : Kt QT) (n : Nat) (L : xL) (st : List Value) (S : QT), nx cod_X7_ready cut_X7_ready K (n + 1) 77 L st S = (O_iload 3 1) (nx cod_X7_ready cut_X7_ready K n) 77 L st S) ∧
  (∀ (K : Kt QT) (n : Nat) (L : xL) (st : List Value) (S : QT), nx cod_X7_ready cut_X7_ready K (n + 1) 78 L st S = (O_iload 1 1) (nx cod_X7_ready cut_X7_ready K n) 78 L st S) ∧
  (∀ (K : Kt QT) (n : Nat) (L : xL) (st : List Value) (S : QT), nx cod_X7_ready cut_X7_ready K (n + 1) 79 L st S = (O_icmp_ne 84) (nx cod_X7_ready cut_X7_ready K n) 79 L st S) ∧
  (∀ (K : Kt QT) (n : Nat) (L : xL) (st : List Value) (S : QT), nx cod_X7_ready cut_X7_ready K (n + 1) 82 L st S = (O_iload 2 1) (nx cod_X7_ready cut_X7_ready K n) 82 L st S) ∧
  (∀ (K : Kt QT) (n : Nat) (L : xL) (st : List Value) (S : QT), nx cod_X7_ready cut_X7_ready K (n + 1) 83 L st S = (O_iret) (nx cod_X7_ready cut_X7_ready K n) 83 L st S) ∧
  (∀ (K : Kt QT) (n : Nat) (L : xL) (st : List Value) (S : QT), nx cod_X7_ready cut_X7_ready K (n + 1) 84 L st S = (O_iinc 2 1) (nx cod_X7_ready cut_X7_ready K n) 84 L st S) ∧
  (∀ (K : Kt QT) (n : Nat) (L : xL) (st : List Value) (S : QT), nx cod_X7_ready cut_X7_ready K (n + 1) 87 L st S = (O_goto 2) (nx cod_X7_ready cut_X7_ready K n) 87 L st S) ∧
  (∀ (K : Kt QT) (n : Nat) (L : xL) (st : List Value) (S : QT), nx cod_X7_ready cut_X7_ready K (n + 1) 90 L st S = (O_int (-1) 1) (nx cod_X7_ready cut_X7_ready K n) 90 L st S) ∧
  (∀ (K : Kt QT) (n : Nat) (L : xL) (st : List Value) (S : QT), nx cod_X7_ready cut_X7_ready K (n + 1) 91 L st S = (O_iret) (nx cod_X7_ready cut_X7_ready K n) 91 L st S) ∧
  (∀ (K : Kt QT) (n : Nat) (L : xL) (st : List Value) (S : QT), nx cod_X7_ready cut_X7_ready K (n + 1) 100000 L st S = K 100000 L st S) := by
  repeat' apply And.intro
  all_goals (intros; rfl)
set_option maxRecDepth 100000 in
theorem mk_X7_ready {P P' : QT} {r : Option Value} {p0 : Int32} (body : ∀ E : En, CodOk E aW cod_X7_ready → Gd E aW 100000 [] r.toList P' → Gd E aW 0 [some (.ref 0), some (.int p0), none, none, none] [] P) : Con yX7_ready cX7_ready 5 (some .int) 4 aW [.ref 0, .int p0] P r P' :=
  Con.of (by decide) ((aW_len P').trans (aW_len P).symm) rfl (Nat.le_of_ble_eq_true rfl) (fun E F G hr => body E (okc_X7_ready F G) hr)
set_option maxRecDepth 10000 in
theorem con_X7_ready (S : ST) (M : MT) (fl : Bool) (x : Int32) (hp : S.P.inv) : Con yX7_ready cX7_ready 5 (some .int) 4 aW [.ref 0, .int x] (S, M, fl) (some (.int (oI (S.P.inOrd x)))) ((S, M, fl)) := by
  refine mk_X7_ready (fun E C hr => ?_)
  have ho := hp.1
  (refine nx_ok C (cuts := cut_X7_ready) 1000 _ _ _ _ ?_; simp only [w_X7_ready, ops_eq, xst_eq, call_eq, oK_eq, Option.toList_some, Option.toList_none, List.cons_append, List.nil_append, List.length_cons, List.length_nil, true_and, and_true, Nat.reduceAdd, aW_F, aW_A, aW_P, aW_w, abs_eq, O_asti_eq, v170, cl_eq, ST_id, MT_gs, ST_gs, PT_gs, ZT_gs, NT_gs, ET_gs, se_X7_isReady, se_X7_isAhead])
  have key : ∀ q3 q4 : Option Value, Gd E aW 2 [some (.ref 0), some (.int x), some (.int (nI 0)), q3, q4] [] (S, M, fl) := by
    refine fstN_up (c := fun p => S.P.rdy p && decide (S.P.aheadN p S.P.noRun = x)) (n := S.P.n) (fun i => ∀ q3 q4 : Option Value, Gd E aW 2 [some (.ref 0), some (.int x), some (.int (nI i)), q3, q4] [] (S, M, fl)) (fun p => Gd E aW 100000 [] [.int (nI p)] (S, M, fl)) (fun i hi h1 h2 q3 q4 => ?_) (fun p h => ?_) (fun h q3 q4 => ?_)
    · have hx := ixs ho hi
      have hh := PT.n_has ho hi
      have inner : Gd E aW 18 [some (.ref 0), some (.int x), some (.int (nI i)), some (.int 0), some (.int (nI 0))] [] (S, M, fl) := by
        refine it_up (f := fun o r => r + bI (S.P.rdy o && S.P.ahead o i S.P.noRun)) (n := S.P.n) (fun _ _ => True) (fun j r => Gd E aW 18 [some (.ref 0), some (.int x), some (.int (nI i)), some (.int r), some (.int (nI j))] [] (S, M, fl)) trivial (fun _ _ _ _ => trivial) (fun j r hj _ hn => ?_) ?_
        · have hy := ixs ho hj
          have hg := PT.n_has ho hj
          have hlt : (nI j = nI i) = (j = i) := propext (nI_eq (by have := ho.2; omega) (by have := ho.2; omega))
          have hs := ahead_self S.P i S.P.noRun
          clear h1 h2 hr
          (refine nx1_ok C cut_X7_ready 1000 ?_; simp only [w_X7_ready, ops_eq, xst_eq, call_eq, oK_eq, Option.toList_some, Option.toList_none, List.cons_append, List.nil_append, List.length_cons, List.length_nil, true_and, and_true, Nat.reduceAdd, aW_F, aW_A, aW_P, aW_w, abs_eq, O_asti_eq, v170, cl_eq, ST_id, MT_gs, ST_gs, PT_gs, ZT_gs, NT_gs, ET_gs, se_X7_isReady, se_X7_isAhead, hx, hy, hh, hg, hlt, hp, ho, cl_eq, bI_eq])
          by_cases e : j = i
          · subst e
            ((repeat' (with_reducible first | apply And.intro | intro _)) <;> simp_all [bI, ST_id, MT_gs, ST_gs, PT_gs, ZT_gs, NT_gs, ET_gs])
          · ((repeat' (with_reducible first | apply And.intro | intro _)) <;> simp_all [bI, ST_id, MT_gs, ST_gs, PT_gs, ZT_gs, NT_gs, ET_gs])
        · have hy := ixe ho
          (refine nx1_ok C cut_X7_ready 1000 ?_; simp only [w_X7_ready, ops_eq, xst_eq, call_eq, oK_eq, Option.toList_some, Option.toList_none, List.cons_append, List.nil_append, List.length_cons, List.length_nil, true_and, and_true, Nat.reduceAdd, aW_F, aW_A, aW_P, aW_w, abs_eq, O_asti_eq, v170, cl_eq, ST_id, MT_gs, ST_gs, PT_gs, ZT_gs, NT_gs, ET_gs, se_X7_isReady, se_X7_isAhead, hx, hy, hh, hp, ho, cl_eq, bI_eq])
          ((repeat' (with_reducible first | apply And.intro | intro _)) <;> simp_all [PT.aheadN, ST_id, MT_gs, ST_gs, PT_gs, ZT_gs, NT_gs, ET_gs])
      clear h1 h2 hr
      (refine nx1_ok C cut_X7_ready 1000 ?_; simp only [w_X7_ready, ops_eq, xst_eq, call_eq, oK_eq, Option.toList_some, Option.toList_none, List.cons_append, List.nil_append, List.length_cons, List.length_nil, true_and, and_true, Nat.reduceAdd, aW_F, aW_A, aW_P, aW_w, abs_eq, O_asti_eq, v170, cl_eq, ST_id, MT_gs, ST_gs, PT_gs, ZT_gs, NT_gs, ET_gs, se_X7_isReady, se_X7_isAhead, hx, cl_eq])
      ((repeat' (with_reducible first | apply And.intro | intro _)) <;> simp_all [nI_0, ST_id, MT_gs, ST_gs, PT_gs, ZT_gs, NT_gs, ET_gs])
    · simpa [PT.inOrd, h, oI] using hr
    · have hx := ixe ho
      (refine nx1_ok C cut_X7_ready 1000 ?_; simp only [w_X7_ready, ops_eq, xst_eq, call_eq, oK_eq, Option.toList_some, Option.toList_none, List.cons_append, List.nil_append, List.length_cons, List.length_nil, true_and, and_true, Nat.reduceAdd, aW_F, aW_A, aW_P, aW_w, abs_eq, O_asti_eq, v170, cl_eq, ST_id, MT_gs, ST_gs, PT_gs, ZT_gs, NT_gs, ET_gs, se_X7_isReady, se_X7_isAhead, hx, cl_eq])
      simp only [PT.inOrd, h, oI] at hr
      ((repeat' (with_reducible first | apply And.intro | intro _)) <;> simp_all [ST_id, MT_gs, ST_gs, PT_gs, ZT_gs, NT_gs, ET_gs])
  exact key none none
def spc_X7_ready (S : ST) (M : MT) (fl : Bool) (x : Int32) (K : Option Value → QT → Prop) : Prop := (S.P.inv) ∧ K (some (.int (oI (S.P.inOrd x)))) ((S, M, fl))
def sp_X7_ready : Sp QT := fun av q K => match av with
  | [.ref 0, .int x] => spc_X7_ready q.1 q.2.1 q.2.2 x K
  | _ => False
theorem se_X7_ready (S : ST) (M : MT) (fl : Bool) (x : Int32) (K : Option Value → QT → Prop) : sp_X7_ready [.ref 0, .int x] (S, M, fl) K = ((S.P.inv) ∧ K (some (.int (oI (S.P.inOrd x)))) ((S, M, fl))) := rfl
theorem spok_X7_ready : SpOk yX7_ready cX7_ready 5 (some .int) 4 aW sp_X7_ready := by
  intro av q K h
  unfold sp_X7_ready at h
  split at h
  · rename_i x; refine ⟨_, _, ?_, con_X7_ready q.1 q.2.1 q.2.2 x h.1, h.2⟩; trivial
  · exact h.elim
def cod_X7_readyPumps : List (Nat × Op QT) := [(0, O_int 0 1), (1, O_istore 1 1), (2, O_int 0 1), (3, O_istore 2 1), (4, O_iload 2 1), (5, O_aload 0 1), (6, O_getf aW 7 0), (9, O_int 14 2), (11, O_ald aW 0), (12, O_icmp_ge 37), (15, O_iload 1 1), (16, O_aload 0 1), (17, O_iload 2 1), (18, O_callV 1 0 (fun S => S) (fun _ S' => S') sp_X7_isReady), (21, O_if_eq 28), (24, O_int 1 1), (25, O_goto 29), (28, O_int 0 1), (29, O_iadd), (30, O_istore 1 1), (31, O_iinc 2 1), (34, O_goto 4), (37, O_iload 1 1), (38, O_iret)]
abbrev cut_X7_readyPumps : List Nat := [4]
set_option maxRecDepth 100000 in
theorem okc_X7_readyPumps {E : En} (F : Fx E RX7 cX7_readyPumps 3 3) (G : Fr E (some .int)) : CodOk E aW cod_X7_readyPumps := by
  unfold CodOk cod_X7_readyPumps
  refine List.forall_mem_cons.mpr ⟨ok_iconst F dX7_readyPumps_0 (by decide) (by decide), ?_⟩
  refine List.forall_mem_cons.mpr ⟨ok_istore_n F dX7_readyPumps_1 rfl (by decide) (by decide), ?_⟩
  refine List.forall_mem_cons.mpr ⟨ok_iconst F dX7_readyPumps_2 (by decide) (by decide), ?_⟩
  refine List.forall_mem_cons.mpr ⟨ok_istore_n F dX7_readyPumps_3 rfl (by decide) (by decide), ?_⟩
  refine List.forall_mem_cons.mpr ⟨ok_iload_n F dX7_readyPumps_4 rfl (by decide), ?_⟩
  refine List.forall_mem_cons.mpr ⟨ok_aload_n F dX7_readyPumps_5 rfl (by decide), ?_⟩
  refine List.forall_mem_cons.mpr ⟨ok_getf F flX7_7 dX7_readyPumps_6 (by decide), ?_⟩
  refine List.forall_mem_cons.mpr ⟨ok_bipush F dX7_readyPumps_9 (by decide) (by decide), ?_⟩
  refine List.forall_mem_cons.mpr ⟨ok_iald F dX7_readyPumps_11 (by decide), ?_⟩
  refine List.forall_mem_cons.mpr ⟨ok_icmp_ge F dX7_readyPumps_12 (by decide) (by decide) (by decide), ?_⟩
  refine List.forall_mem_cons.mpr ⟨ok_iload_n F dX7_readyPumps_15 rfl (by decide), ?_⟩
  refine List.forall_mem_cons.mpr ⟨ok_aload_n F dX7_readyPumps_16 rfl (by decide), ?_⟩
  refine List.forall_mem_cons.mpr ⟨ok_iload_n F dX7_readyPumps_17 rfl (by decide), ?_⟩
  refine List.forall_mem_cons.mpr ⟨ok_callV F spok_X7_isReady (ln_id aW) rcv_aW (by decide +kernel) (by decide) dX7_readyPumps_18 (by decide), ?_⟩
  refine List.forall_mem_cons.mpr ⟨ok_if_eq F dX7_readyPumps_21 (by decide) (by decide) (by decide), ?_⟩
  refine List.forall_mem_cons.mpr ⟨ok_iconst F dX7_readyPumps_24 (by decide) (by decide), ?_⟩
  refine List.forall_mem_cons.mpr ⟨ok_goto F dX7_readyPumps_25 (by decide) (by decide) (by decide), ?_⟩
  refine List.forall_mem_cons.mpr ⟨ok_iconst F dX7_readyPumps_28 (by decide) (by decide), ?_⟩
  refine List.forall_mem_cons.mpr ⟨ok_iadd F dX7_readyPumps_29 (by decide), ?_⟩
  refine List.forall_mem_cons.mpr ⟨ok_istore_n F dX7_readyPumps_30 rfl (by decide) (by decide), ?_⟩
  refine List.forall_mem_cons.mpr ⟨ok_iinc F dX7_readyPumps_31 (by decide) (by decide) (by decide), ?_⟩
  refine List.forall_mem_cons.mpr ⟨ok_goto F dX7_readyPumps_34 (by decide) (by decide) (by decide), ?_⟩
  refine List.forall_mem_cons.mpr ⟨ok_iload_n F dX7_readyPumps_37 rfl (by decide), ?_⟩
  refine List.forall_mem_cons.mpr ⟨ok_iret F G dX7_readyPumps_38 (by decide), ?_⟩
  exact fun _ h => absurd h List.not_mem_nil
set_option maxRecDepth 100000 in
theorem w_X7_readyPumps : (∀ (K : Kt QT) (n : Nat) (L : xL) (st : List Value) (S : QT), nx cod_X7_readyPumps cut_X7_readyPumps K (n + 1) 0 L st S = (O_int 0 1) (nx cod_X7_readyPumps cut_X7_readyPumps K n) 0 L st S) ∧
  (∀ (K : Kt QT) (n : Nat) (L : xL) (st : List Value) (S : QT), nx cod_X7_readyPumps cut_X7_readyPumps K (n + 1) 1 L st S = (O_istore 1 1) (nx cod_X7_readyPumps cut_X7_readyPumps K n) 1 L st S) ∧
  (∀ (K : Kt QT) (n : Nat) (L : xL) (st : List Value) (S : QT), nx cod_X7_readyPumps cut_X7_readyPumps K (n + 1) 2 L st S = (O_int 0 1) (nx cod_X7_readyPumps cut_X7_readyPumps K n) 2 L st S) ∧
  (∀ (K : Kt QT) (n : Nat) (L : xL) (st : List Value) (S : QT), nx cod_X7_readyPumps cut_X7_readyPumps K (n + 1) 3 L st S = (O_istore 2 1) (nx cod_X7_readyPumps cut_X7_readyPumps K n) 3 L st S) ∧
  (∀ (K : Kt QT) (n : Nat) (L : xL) (st : List Value) (S : QT), nx cod_X7_readyPumps cut_X7_readyPumps K (n + 1) 4 L st S = K 4 L st S) ∧
  (∀ (K : Kt QT) (n : Nat) (L : xL) (st : List Value) (S : QT), nx1 cod_X7_readyPumps cut_X7_readyPumps K n 4 L st S = (O_iload 2 1) (nx cod_X7_readyPumps cut_X7_readyPumps K n) 4 L st S) ∧
  (∀ (K : Kt QT) (n : Nat) (L : xL) (st : List Value) (S : QT), nx cod_X7_readyPumps cut_X7_readyPumps K (n + 1) 5 L st S = (O_aload 0 1) (nx cod_X7_readyPumps cut_X7_readyPumps K n) 5 L st S) ∧
  (∀ (K : Kt QT) (n : Nat) (L : xL) (st : List Value) (S : QT), nx cod_X7_readyPumps cut_X7_readyPumps K (n + 1) 6 L st S = (O_getf aW 7 0) (nx cod_X7_readyPumps cut_X7_readyPumps K n) 6 L st S) ∧
  (∀ (K : Kt QT) (n : Nat) (L : xL) (st : List Value) (S : QT), nx cod_X7_readyPumps cut_X7_readyPumps K (n + 1) 9 L st S = (O_int 14 2) (nx cod_X7_readyPumps cut_X7_readyPumps K n) 9 L st S) ∧
  (∀ (K : Kt QT) (n : Nat) (L : xL) (st : List Value) (S : QT), nx cod_X7_readyPumps cut_X7_readyPumps K (n + 1) 11 L st S = (O_ald aW 0) (nx cod_X7_readyPumps cut_X7_readyPumps K n) 11 L st S) ∧
  (∀ (K : Kt QT) (n : Nat) (L : xL) (st : List Value) (S : QT), nx cod_X7_readyPumps cut_X7_readyPumps K (n + 1) 12 L st S = (O_icmp_ge 37) (nx cod_X7_readyPumps cut_X7_readyPumps K n) 12 L st S) ∧
  (∀ (K : Kt QT) (n : Nat) (L : xL) (st : List Value) (S : QT), nx cod_X7_readyPumps cut_X7_readyPumps K (n + 1) 15 L st S = (O_iload 1 1) (nx cod_X7_readyPumps cut_X7_readyPumps K n) 15 L st S) ∧
  (∀ (K : Kt QT) (n : Nat) (L : xL) (st : List Value) (S : QT), nx cod_X7_readyPumps cut_X7_readyPumps K (n + 1) 16 L st S = (O_aload 0 1) (nx cod_X7_readyPumps cut_X7_readyPumps K n) 16 L st S) ∧
  (∀ (K : Kt QT) (n : Nat) (L : xL) (st : List Value) (S : QT), nx cod_X7_readyPumps cut_X7_readyPumps K (n + 1) 17 L st S = (O_iload 2 1) (nx cod_X7_readyPumps cut_X7_readyPumps K n) 17 L st S) ∧
  (∀ (K : Kt QT) (n : Nat) (L : xL) (st : List Value) (S : QT), nx cod_X7_readyPumps cut_X7_readyPumps K (n + 1) 18 L st S = (O_callV 1 0 (fun S => S) (fun _ S' => S') sp_X7_isReady) (nx cod_X7_readyPumps cut_X7_readyPumps K n) 18 L st S) ∧
  (∀ (K : Kt QT) (n : Nat) (L : xL) (st : List Value) (S : QT), nx cod_X7_readyPumps cut_X7_readyPumps K (n + 1) 21 L st S = (O_if_eq 28) (nx cod_X7_readyPumps cut_X7_readyPumps K n) 21 L st S) ∧
  (∀ (K : Kt QT) (n : Nat) (L : xL) (st : List Value) (S : QT), nx cod_X7_readyPumps cut_X7_readyPumps K (n + 1) 24 L st S = (O_int 1 1) (nx cod_X7_readyPumps cut_X7_readyPumps K n) 24 L st S) ∧
  (∀ (K : Kt QT) (n : Nat) (L : xL) (st : List Value) (S : QT), nx cod_X7_readyPumps cut_X7_readyPumps K (n + 1) 25 L st S = (O_goto 29) (nx cod_X7_readyPumps cut_X7_readyPumps K n) 25 L st S) ∧
  (∀ (K : Kt QT) (n : Nat) (L : xL) (st : List Value) (S : QT), nx cod_X7_readyPumps cut_X7_readyPumps K (n + 1) 28 L st S = (O_int 0 1) (nx cod_X7_readyPumps cut_X7_readyPumps K n) 28 L st S) ∧
  (∀ (K : Kt QT) (n : Nat) (L : xL) (st : List Value) (S : QT), nx cod_X7_readyPumps cut_X7_readyPumps K (n + 1) 29 L st S = (O_iadd) (nx cod_X7_readyPumps cut_X7_readyPumps K n) 29 L st S) ∧
  (∀ (K : Kt QT) (n : Nat) (L : xL) (st : List Value) (S : QT), nx cod_X7_readyPumps cut_X7_readyPumps K (n + 1) 30 L st S = (O_istore 1 1) (nx cod_X7_readyPumps cut_X7_readyPumps K n) 30 L st S) ∧
  (∀ (K : Kt QT) (n : Nat) (L : xL) (st : List Value) (S : QT), nx cod_X7_readyPumps cut_X7_readyPumps K (n + 1) 31 L st S = (O_iinc 2 1) (nx cod_X7_readyPumps cut_X7_readyPumps K n) 31 L st S) ∧
  (∀ (K : Kt QT) (n : Nat) (L : xL) (st : List Value) (S : QT), nx cod_X7_readyPumps cut_X7_readyPumps K (n + 1) 34 L st S = (O_goto 4) (nx cod_X7_readyPumps cut_X7_readyPumps K n) 34 L st S) ∧
  (∀ (K : Kt QT) (n : Nat) (L : xL) (st : List Value) (S : QT), nx cod_X7_readyPumps cut_X7_readyPumps K (n + 1) 37 L st S = (O_iload 1 1) (nx cod_X7_readyPumps cut_X7_readyPumps K n) 37 L st S) ∧
  (∀ (K : Kt QT) (n : Nat) (L : xL) (st : List Value) (S : QT), nx cod_X7_readyPumps cut_X7_readyPumps K (n + 1) 38 L st S = (O_iret) (nx cod_X7_readyPumps cut_X7_readyPumps K n) 38 L st S) ∧
  (∀ (K : Kt QT) (n : Nat) (L : xL) (st : List Value) (S : QT), nx cod_X7_readyPumps cut_X7_readyPumps K (n + 1) 100000 L st S = K 100000 L st S) := by
  repeat' apply And.intro
  all_goals (intros; rfl)
set_option maxRecDepth 100000 in
theorem mk_X7_readyPumps {P P' : QT} {r : Option Value}  (body : ∀ E : En, CodOk E aW cod_X7_readyPumps → Gd E aW 100000 [] r.toList P' → Gd E aW 0 [some (.ref 0), none, none] [] P) : Con yX7_readyPumps cX7_readyPumps 3 (some .int) 3 aW [.ref 0] P r P' :=
  Con.of (by decide) ((aW_len P').trans (aW_len P).symm) rfl (Nat.le_of_ble_eq_true rfl) (fun E F G hr => body E (okc_X7_readyPumps F G) hr)
set_option maxRecDepth 10000 in
theorem con_X7_readyPumps (S : ST) (M : MT) (fl : Bool)  (hp : S.P.inv) : Con yX7_readyPumps cX7_readyPumps 3 (some .int) 3 aW [.ref 0] (S, M, fl) (some (.int (S.P.readyOnes))) ((S, M, fl)) := by
  refine mk_X7_readyPumps (fun E C hr => ?_)
  have ho := hp.1
  (refine nx_ok C (cuts := cut_X7_readyPumps) 1000 _ _ _ _ ?_; simp only [w_X7_readyPumps, ops_eq, xst_eq, call_eq, oK_eq, Option.toList_some, Option.toList_none, List.cons_append, List.nil_append, List.length_cons, List.length_nil, true_and, and_true, Nat.reduceAdd, aW_F, aW_A, aW_P, aW_w, abs_eq, O_asti_eq, v170, cl_eq, ST_id, MT_gs, ST_gs, PT_gs, ZT_gs, NT_gs, ET_gs, se_X7_isReady])
  refine it_up (f := fun p r => r + bI (S.P.rdy p)) (n := S.P.n) (fun _ _ => True) (fun i r => Gd E aW 4 [some (.ref 0), some (.int r), some (.int (nI i))] [] (S, M, fl)) trivial (fun _ _ _ _ => trivial) (fun i r hi _ hn => ?_) ?_
  · have hx := ixs ho hi
    have hh := PT.n_has ho hi
    clear hr
    (refine nx1_ok C cut_X7_readyPumps 1000 ?_; simp only [w_X7_readyPumps, ops_eq, xst_eq, call_eq, oK_eq, Option.toList_some, Option.toList_none, List.cons_append, List.nil_append, List.length_cons, List.length_nil, true_and, and_true, Nat.reduceAdd, aW_F, aW_A, aW_P, aW_w, abs_eq, O_asti_eq, v170, cl_eq, ST_id, MT_gs, ST_gs, PT_gs, ZT_gs, NT_gs, ET_gs, se_X7_isReady, hx, hh, hp, cl_eq, bI_eq])
    ((repeat' (with_reducible first | apply And.intro | intro _)) <;> simp_all [bI, ST_id, MT_gs, ST_gs, PT_gs, ZT_gs, NT_gs, ET_gs])
  · have hx := ixe ho
    (refine nx1_ok C cut_X7_readyPumps 1000 ?_; simp only [w_X7_readyPumps, ops_eq, xst_eq, call_eq, oK_eq, Option.toList_some, Option.toList_none, List.cons_append, List.nil_append, List.length_cons, List.length_nil, true_and, and_true, Nat.reduceAdd, aW_F, aW_A, aW_P, aW_w, abs_eq, O_asti_eq, v170, cl_eq, ST_id, MT_gs, ST_gs, PT_gs, ZT_gs, NT_gs, ET_gs, se_X7_isReady, hx, cl_eq])
    ((repeat' (with_reducible first | apply And.intro | intro _)) <;> simp_all [PT.readyOnes, ST_id, MT_gs, ST_gs, PT_gs, ZT_gs, NT_gs, ET_gs])
def spc_X7_readyPumps (S : ST) (M : MT) (fl : Bool)  (K : Option Value → QT → Prop) : Prop := (S.P.inv) ∧ K (some (.int (S.P.readyOnes))) ((S, M, fl))
def sp_X7_readyPumps : Sp QT := fun av q K => match av with
  | [.ref 0] => spc_X7_readyPumps q.1 q.2.1 q.2.2  K
  | _ => False
theorem se_X7_readyPumps (S : ST) (M : MT) (fl : Bool)  (K : Option Value → QT → Prop) : sp_X7_readyPumps [.ref 0] (S, M, fl) K = ((S.P.inv) ∧ K (some (.int (S.P.readyOnes))) ((S, M, fl))) := rfl
theorem spok_X7_readyPumps : SpOk yX7_readyPumps cX7_readyPumps 3 (some .int) 3 aW sp_X7_readyPumps := by
  intro av q K h
  unfold sp_X7_readyPumps at h
  split at h
  · refine ⟨_, _, ?_, con_X7_readyPumps q.1 q.2.1 q.2.2  h.1, h.2⟩; trivial
  · exact h.elim
