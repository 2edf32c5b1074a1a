/-! ===== the reference: roots and flows ===== -/
def rootN (v : Nat) : Nat := it (fun k r => if v < (r + 1024 / 2 ^ k) * (r + 1024 / 2 ^ k) then r else r + 1024 / 2 ^ k) 0 11
theorem bit2 : ∀ k, k < 11 → 2048 / 2 ^ k = 2 * (1024 / 2 ^ k) ∧ 2048 / 2 ^ (k + 1) = 1024 / 2 ^ k := by decide +kernel
theorem rootN_inv {v : Nat} (hv : v < 2048 * 2048) : ∀ k, k ≤ 11 → (fun r : Nat => r * r ≤ v ∧ v < (r + 2048 / 2 ^ k) * (r + 2048 / 2 ^ k) ∧ r + 2048 / 2 ^ k ≤ 2048) (it (fun k r => if v < (r + 1024 / 2 ^ k) * (r + 1024 / 2 ^ k) then r else r + 1024 / 2 ^ k) 0 k) := by
  intro k
  induction k with
  | zero =>
    intro _
    refine ⟨Nat.zero_le _, ?_, ?_⟩
    · show v < (0 + 2048 / 2 ^ 0) * (0 + 2048 / 2 ^ 0)
      simpa using hv
    · show 0 + 2048 / 2 ^ 0 ≤ 2048
      simp
  | succ k ih =>
    intro hk
    have h := ih (by omega)
    obtain ⟨b1, b2⟩ := bit2 k (by omega)
    rw [it]
    generalize it (fun k r => if v < (r + 1024 / 2 ^ k) * (r + 1024 / 2 ^ k) then r else r + 1024 / 2 ^ k) 0 k = r at h ⊢
    rw [b2]
    rw [b1] at h
    generalize 1024 / 2 ^ k = b at h ⊢
    obtain ⟨h1, h2, h3⟩ := h
    split
    · rename_i q
      exact ⟨h1, q, by omega⟩
    · rename_i q
      rw [show r + 2 * b = r + b + b by omega] at h2
      exact ⟨by omega, h2, by omega⟩
theorem rootN_ok {v : Nat} (hv : v < 2048 * 2048) : rootN v * rootN v ≤ v ∧ v < (rootN v + 1) * (rootN v + 1) ∧ rootN v + 1 ≤ 2048 := rootN_inv hv 11 (Nat.le_refl _)
theorem root_nI {v : Nat} (hv : v < 2048 * 2048) : root (nI v) = nI (rootN v) := by
  have key : ∀ k, k ≤ 11 → it (fun k r => if nI v < (r + nI (1024 / 2 ^ k)) * (r + nI (1024 / 2 ^ k)) then r else r + nI (1024 / 2 ^ k)) 0 k = nI (it (fun k r => if v < (r + 1024 / 2 ^ k) * (r + 1024 / 2 ^ k) then r else r + 1024 / 2 ^ k) 0 k) := by
    intro k
    induction k with
    | zero => exact fun _ => rfl
    | succ k ih =>
      intro hk
      have h3 := (rootN_inv hv k (by omega)).2.2
      obtain ⟨b1, b2⟩ := bit2 k (by omega)
      rw [it, it, ih (by omega)]
      generalize it (fun k r => if v < (r + 1024 / 2 ^ k) * (r + 1024 / 2 ^ k) then r else r + 1024 / 2 ^ k) 0 k = r at h3 ⊢
      rw [b1] at h3
      generalize 1024 / 2 ^ k = b at h3 ⊢
      rw [nI_add, pk_mul]
      have hb : (r + b) * (r + b) ≤ 2048 * 2048 := Nat.mul_le_mul (by omega) (by omega)
      have hq := nI_ltI (a := v) (b := (r + b) * (r + b)) (by omega) (by omega)
      by_cases q : v < (r + b) * (r + b)
      · rw [if_pos q, if_pos (hq.mpr q)]
      · rw [if_neg q, if_neg (fun z => q (hq.mp z))]
  exact key 11 (Nat.le_refl _)
theorem lN_bits : (∀ k : Nat, lN k + 1 = lN (k + 1)) ∧ (∀ k : Nat, (lN k).toInt32 = nI k) ∧ ((0 : Int64) = lN 0) := by
  refine ⟨fun k => ?_, fun k => ?_, rfl⟩
  · rw [show (1 : Int64) = lN 1 from rfl, lN_add]
  · exact lN_i k
def cod_X7_root : List (Nat × Op Unit) := [(0, O_long 0 1), (1, O_lstore 2 1), (2, O_lload 2 1), (3, O_long 1 1), (4, O_ladd), (5, O_lload 2 1), (6, O_long 1 1), (7, O_ladd), (8, O_lmul), (9, O_lload 0 1), (10, O_lcmp), (11, O_if_gt 21), (14, O_lload 2 1), (15, O_long 1 1), (16, O_ladd), (17, O_lstore 2 1), (18, O_goto 2), (21, O_lload 2 1), (22, O_l2i), (23, O_iret)]
abbrev cut_X7_root : List Nat := [2]
set_option maxRecDepth 100000 in
theorem okc_X7_root {E : En} (F : Fx E RX7 cX7_root 4 0) (G : Fr E (some .int)) : CodOk E toU cod_X7_root := by
  unfold CodOk cod_X7_root
  refine List.forall_mem_cons.mpr ⟨ok_lconst F dX7_root_0 (by decide) (by decide), ?_⟩
  refine List.forall_mem_cons.mpr ⟨ok_lstore_n F dX7_root_1 rfl (by decide) (by decide), ?_⟩
  refine List.forall_mem_cons.mpr ⟨ok_lload_n F dX7_root_2 rfl (by decide), ?_⟩
  refine List.forall_mem_cons.mpr ⟨ok_lconst F dX7_root_3 (by decide) (by decide), ?_⟩
  refine List.forall_mem_cons.mpr ⟨ok_ladd F dX7_root_4 (by decide), ?_⟩
  refine List.forall_mem_cons.mpr ⟨ok_lload_n F dX7_root_5 rfl (by decide), ?_⟩
  refine List.forall_mem_cons.mpr ⟨ok_lconst F dX7_root_6 (by decide) (by decide), ?_⟩
  refine List.forall_mem_cons.mpr ⟨ok_ladd F dX7_root_7 (by decide), ?_⟩
  refine List.forall_mem_cons.mpr ⟨ok_lmul F dX7_root_8 (by decide), ?_⟩
  refine List.forall_mem_cons.mpr ⟨ok_lload_n F dX7_root_9 rfl (by decide), ?_⟩
  refine List.forall_mem_cons.mpr ⟨ok_lcmp F dX7_root_10 (by decide), ?_⟩
  refine List.forall_mem_cons.mpr ⟨ok_if_gt F dX7_root_11 (by decide) (by decide) (by decide), ?_⟩
  refine List.forall_mem_cons.mpr ⟨ok_lload_n F dX7_root_14 rfl (by decide), ?_⟩
  refine List.forall_mem_cons.mpr ⟨ok_lconst F dX7_root_15 (by decide) (by decide), ?_⟩
  refine List.forall_mem_cons.mpr ⟨ok_ladd F dX7_root_16 (by decide), ?_⟩
  refine List.forall_mem_cons.mpr ⟨ok_lstore_n F dX7_root_17 rfl (by decide) (by decide), ?_⟩
  refine List.forall_mem_cons.mpr ⟨ok_goto F dX7_root_18 (by decide) (by decide) (by decide), ?_⟩
  refine List.forall_mem_cons.mpr ⟨ok_lload_n F dX7_root_21 rfl (by decide), ?_⟩
  refine List.forall_mem_cons.mpr ⟨ok_l2i F dX7_root_22 (by decide), ?_⟩
  refine List.forall_mem_cons.mpr ⟨ok_iret F G dX7_root_23 (by decide), ?_⟩
  exact fun _ h => absurd h List.not_mem_nil
set_option maxRecDepth 100000 in
theorem w_X7_root : (∀ (K : Kt Unit) (n : Nat) (L : xL) (st : List Value) (S : Unit), nx cod_X7_root cut_X7_root K (n + 1) 0 L st S = (O_long 0 1) (nx cod_X7_root cut_X7_root K n) 0 L st S) ∧
  (∀ (K : Kt Unit) (n : Nat) (L : xL) (st : List Value) (S : Unit), nx cod_X7_root cut_X7_root K (n + 1) 1 L st S = (O_lstore 2 1) (nx cod_X7_root cut_X7_root K n) 1 L st S) ∧
  (∀ (K : Kt Unit) (n : Nat) (L : xL) (st : List Value) (S : Unit), nx cod_X7_root cut_X7_root K (n + 1) 2 L st S = K 2 L st S) ∧
  (∀ (K : Kt Unit) (n : Nat) (L : xL) (st : List Value) (S : Unit), nx1 cod_X7_root cut_X7_root K n 2 L st S = (O_lload 2 1) (nx cod_X7_root cut_X7_root K n) 2 L st S) ∧
  (∀ (K : Kt Unit) (n : Nat) (L : xL) (st : List Value) (S : Unit), nx cod_X7_root cut_X7_root K (n + 1) 3 L st S = (O_long 1 1) (nx cod_X7_root cut_X7_root K n) 3 L st S) ∧
  (∀ (K : Kt Unit) (n : Nat) (L : xL) (st : List Value) (S : Unit), nx cod_X7_root cut_X7_root K (n + 1) 4 L st S = (O_ladd) (nx cod_X7_root cut_X7_root K n) 4 L st S) ∧
  (∀ (K : Kt Unit) (n : Nat) (L : xL) (st : List Value) (S : Unit), nx cod_X7_root cut_X7_root K (n + 1) 5 L st S = (O_lload 2 1) (nx cod_X7_root cut_X7_root K n) 5 L st S) ∧
  (∀ (K : Kt Unit) (n : Nat) (L : xL) (st : List Value) (S : Unit), nx cod_X7_root cut_X7_root K (n + 1) 6 L st S = (O_long 1 1) (nx cod_X7_root cut_X7_root K n) 6 L st S) ∧
  (∀ (K : Kt Unit) (n : Nat) (L : xL) (st : List Value) (S : Unit), nx cod_X7_root cut_X7_root K (n + 1) 7 L st S = (O_ladd) (nx cod_X7_root cut_X7_root K n) 7 L st S) ∧
  (∀ (K : Kt Unit) (n : Nat) (L : xL) (st : List Value) (S : Unit), nx cod_X7_root cut_X7_root K (n + 1) 8 L st S = (O_lmul) (nx cod_X7_root cut_X7_root K n) 8 L st S) ∧
  (∀ (K : Kt Unit) (n : Nat) (L : xL) (st : List Value) (S : Unit), nx cod_X7_root cut_X7_root K (n + 1) 9 L st S = (O_lload 0 1) (nx cod_X7_root cut_X7_root K n) 9 L st S) ∧
  (∀ (K : Kt Unit) (n : Nat) (L : xL) (st : List Value) (S : Unit), nx cod_X7_root cut_X7_root K (n + 1) 10 L st S = (O_lcmp) (nx cod_X7_root cut_X7_root K n) 10 L st S) ∧
  (∀ (K : Kt Unit) (n : Nat) (L : xL) (st : List Value) (S : Unit), nx cod_X7_root cut_X7_root K (n + 1) 11 L st S = (O_if_gt 21) (nx cod_X7_root cut_X7_root K n) 11 L st S) ∧
  (∀ (K : Kt Unit) (n : Nat) (L : xL) (st : List Value) (S : Unit), nx cod_X7_root cut_X7_root K (n + 1) 14 L st S = (O_lload 2 1) (nx cod_X7_root cut_X7_root K n) 14 L st S) ∧
  (∀ (K : Kt Unit) (n : Nat) (L : xL) (st : List Value) (S : Unit), nx cod_X7_root cut_X7_root K (n + 1) 15 L st S = (O_long 1 1) (nx cod_X7_root cut_X7_root K n) 15 L st S) ∧
  (∀ (K : Kt Unit) (n : Nat) (L : xL) (st : List Value) (S : Unit), nx cod_X7_root cut_X7_root K (n + 1) 16 L st S = (O_ladd) (nx cod_X7_root cut_X7_root K n) 16 L st S) ∧
  (∀ (K : Kt Unit) (n : Nat) (L : xL) (st : List Value) (S : Unit), nx cod_X7_root cut_X7_root K (n + 1) 17 L st S = (O_lstore 2 1) (nx cod_X7_root cut_X7_root K n) 17 L st S) ∧
  (∀ (K : Kt Unit) (n : Nat) (L : xL) (st : List Value) (S : Unit), nx cod_X7_root cut_X7_root K (n + 1) 18 L st S = (O_goto 2) (nx cod_X7_root cut_X7_root K n) 18 L st S) ∧
  (∀ (K : Kt Unit) (n : Nat) (L : xL) (st : List Value) (S : Unit), nx cod_X7_root cut_X7_root K (n + 1) 21 L st S = (O_lload 2 1) (nx cod_X7_root cut_X7_root K n) 21 L st S) ∧
  (∀ (K : Kt Unit) (n : Nat) (L : xL) (st : List Value) (S : Unit), nx cod_X7_root cut_X7_root K (n + 1) 22 L st S = (O_l2i) (nx cod_X7_root cut_X7_root K n) 22 L st S) ∧
  (∀ (K : Kt Unit) (n : Nat) (L : xL) (st : List Value) (S : Unit), nx cod_X7_root cut_X7_root K (n + 1) 23 L st S = (O_iret) (nx cod_X7_root cut_X7_root K n) 23 L st S) ∧
  (∀ (K : Kt Unit) (n : Nat) (L : xL) (st : List Value) (S : Unit), nx cod_X7_root cut_X7_root K (n + 1) 100000 L st S = K 100000 L st S) := by
  repeat' apply And.intro
  all_goals (intros; rfl)
set_option maxRecDepth 100000 in
theorem mk_X7_root {P P' : Unit} {r : Option Value} {p0 : Int64} (body : ∀ E : En, CodOk E toU cod_X7_root → Gd E toU 100000 [] r.toList P' → Gd E toU 0 [some (.long p0), none, none, none] [] P) : Con yX7_root cX7_root 4 (some .int) 0 toU [.long p0] P r P' :=
  Con.of (by decide) rfl rfl (Nat.le_of_ble_eq_true rfl) (fun E F G hr => body E (okc_X7_root F G) hr)
set_option maxRecDepth 10000 in
theorem con_X7_root (S : Unit) (v : Int64) (hp : 0 ≤ v.toInt ∧ v.toInt < 4000000) : Con yX7_root cX7_root 4 (some .int) 0 toU [.long v] S (some (.int (nI (rootN v.toInt.toNat)))) (S) := by
  refine mk_X7_root (fun E C hr => ?_)
  obtain ⟨n, hn, rfl⟩ : ∃ n : Nat, n < 4000000 ∧ v = lN n := ⟨v.toInt.toNat, by omega, Int64.toInt_inj.mp (by rw [pk_lT (by omega)]; omega)⟩
  rw [pk_lT (by omega), Int.toNat_natCast] at hr
  obtain ⟨r1, r2, r3⟩ := rootN_ok (v := n) (by omega)
  have key : Gd E toU 2 [some (.long (lN n)), none, some (.long (lN 0)), none] [] () := by
    refine it_up (f := fun _ (_ : Unit) => ()) (n := rootN n) (a := ()) (fun _ _ => True) (fun k _ => Gd E toU 2 [some (.long (lN n)), none, some (.long (lN k)), none] [] ()) trivial (fun _ _ _ _ => trivial) (fun k _ hk _ hx => ?_) ?_
    · have h1 : ¬ lN n < lN ((k + 1) * (k + 1)) := by
        have hb : (k + 1) * (k + 1) ≤ rootN n * rootN n := Nat.mul_le_mul (by omega) (by omega)
        rw [pk_lLT (by omega) (by omega)]
        omega
      (refine nx1_ok C cut_X7_root 1000 ?_; simp only [w_X7_root, ops_eq, xst_eq, call_eq, oK_eq, Option.toList_some, Option.toList_none, List.cons_append, List.nil_append, List.length_cons, List.length_nil, true_and, and_true, Nat.reduceAdd, call_eq, cmp_eq, lN_bits, lN_mul, h1])
      ((repeat' (with_reducible first | apply And.intro | intro _)) <;> simp_all [])
    · have h1 : lN n < lN ((rootN n + 1) * (rootN n + 1)) := by
        have hb : (rootN n + 1) * (rootN n + 1) ≤ 2048 * 2048 := Nat.mul_le_mul r3 r3
        rw [pk_lLT (by omega) (by omega)]
        omega
      (refine nx1_ok C cut_X7_root 1000 ?_; simp only [w_X7_root, ops_eq, xst_eq, call_eq, oK_eq, Option.toList_some, Option.toList_none, List.cons_append, List.nil_append, List.length_cons, List.length_nil, true_and, and_true, Nat.reduceAdd, call_eq, cmp_eq, lN_bits, lN_mul, h1])
      ((repeat' (with_reducible first | apply And.intro | intro _)) <;> simp_all [])
  (refine nx_ok C (cuts := cut_X7_root) 1000 _ _ _ _ ?_; simp only [w_X7_root, ops_eq, xst_eq, call_eq, oK_eq, Option.toList_some, Option.toList_none, List.cons_append, List.nil_append, List.length_cons, List.length_nil, true_and, and_true, Nat.reduceAdd, call_eq])
  ((repeat' (with_reducible first | apply And.intro | intro _)) <;> simp_all [lN_bits])
def sp_X7_root : Sp Unit := fun av S K => match av with
  | [.long v] => (0 ≤ v.toInt ∧ v.toInt < 4000000) ∧ K (some (.int (nI (rootN v.toInt.toNat)))) (S)
  | _ => False
theorem se_X7_root (v : Int64) (S : Unit) (K : Option Value → Unit → Prop) : sp_X7_root [.long v] S K = ((0 ≤ v.toInt ∧ v.toInt < 4000000) ∧ K (some (.int (nI (rootN v.toInt.toNat)))) (S)) := rfl
theorem spok_X7_root : SpOk yX7_root cX7_root 4 (some .int) 0 toU sp_X7_root := by
  intro av S K h
  unfold sp_X7_root at h
  split at h
  · rename_i v; exact ⟨some (.int (nI (rootN v.toInt.toNat))), S, trivial, con_X7_root S v h.1, h.2⟩
  · exact h.elim
theorem rngN {x : Int32} {a b : Nat} (h : rng x a b) : ∃ n : Nat, x = nI n ∧ a ≤ n ∧ n ≤ b ∧ n < 2147483648 := by
  obtain ⟨n, h1, h2, h3⟩ := rng_nI h (by omega)
  exact ⟨n, h1, by omega, by omega, h3⟩
theorem flow_facts {S : PT} {i : Nat} {sp pr : Int32} (h1 : rng (S.shutoffs i) 0 2000) (h2 : rng (S.steeps i) 1 1000) (h3 : rng sp 0 1000) (h4 : rng pr 0 2000) : ∃ L q V : Nat, (S.shutoffs i).toInt64 * sp.toInt64 * sp.toInt64 / 1000000 = lN L ∧ pr.toInt64 = lN q ∧ ((lN q < lN L) = (q < L)) ∧ (q < L → (lN L - lN q) * 1000 / (S.steeps i).toInt64 = lN V ∧ V < 4000000) ∧ ¬ (S.steeps i).toInt64 = 0 ∧ S.flowOf i sp pr = (if q < L then nI (rootN V) else 0) := by
  obtain ⟨a, ea, a1, a2, a3⟩ := rngN (a := 0) (b := 2000) h1
  obtain ⟨t, et, t1, t2, t3⟩ := rngN (a := 1) (b := 1000) h2
  obtain ⟨s, es, s1, s2, s3⟩ := rngN (a := 0) (b := 1000) h3
  obtain ⟨q, eq, q1, q2, q3⟩ := rngN (a := 0) (b := 2000) h4
  have m1 : a * s ≤ 2000 * 1000 := Nat.mul_le_mul a2 s2
  have m2 : a * s * s ≤ 2000 * 1000 * 1000 := Nat.mul_le_mul m1 s2
  have m3 : a * s * s / 1000000 ≤ 2000 := by omega
  have m4 : (a * s * s / 1000000 - q) * 1000 / t ≤ (a * s * s / 1000000 - q) * 1000 := Nat.div_le_self _ _
  refine ⟨a * s * s / 1000000, q, (a * s * s / 1000000 - q) * 1000 / t, ?_, ?_, ?_, fun hq => ⟨?_, by omega⟩, ?_, ?_⟩
  · rw [ea, es, nI_l a3, nI_l s3, lN_mul, lN_mul, show (1000000 : Int64) = lN 1000000 from rfl, pk_lDiv (by omega) (by omega) (by omega)]
  · rw [eq, nI_l q3]
  · exact propext (pk_lLT (by omega) (by omega))
  · rw [et, nI_l t3, lN_sub (by omega), show (1000 : Int64) = lN 1000 from rfl, lN_mul, pk_lDiv (by omega) (by omega) (by omega)]
  · rw [et, nI_l t3, show (0 : Int64) = lN 0 from rfl, pk_lEQ (by omega) (by omega)]
    omega
  · unfold PT.flowOf
    have c1 : nI q < nI (a * s * s / 1000000) ↔ q < a * s * s / 1000000 := nI_ltI (by omega) (by omega)
    have c2 : (0 : Int32) < nI t := by
      rw [show (0 : Int32) = nI 0 from rfl, nI_ltI (by omega) (by omega)]
      omega
    rw [ea, et, es, eq, pk_mul, pk_mul, show (1000000 : Int32) = nI 1000000 from rfl, pk_div (by omega) (by omega) (by omega)]
    by_cases z : q < a * s * s / 1000000
    · rw [if_pos z, if_neg (fun h => h.elim (fun h => h (c1.mpr z)) (fun h => h c2)), pk_sub (by omega), show (1000 : Int32) = nI 1000 from rfl, pk_mul, pk_div (by omega) (by omega) (by omega), root_nI (by omega)]
    · rw [if_neg z, if_pos (Or.inl (fun h => z (c1.mp h)))]
theorem pumps_rng {S : PT} (h : S.inv) {p : Int32} (hh : S.has p = true) : rng (S.shutoffs p.toNatClampNeg) 0 2000 ∧ rng (S.steeps p.toNatClampNeg) 1 1000 ∧ rng (S.speeds p.toNatClampNeg) 0 1000 ∧ vp_in p 6 := by
  obtain ⟨i, hi, e1, e2⟩ := PT.has_n h.1 hh
  obtain ⟨h1, h2, h3, h4⟩ := h.2.1 i hi
  rw [e2]
  exact ⟨h1, h2, h3, PT.has_in h.1 hh⟩
def cod_X7_flow : List (Nat × Op QT) := [(0, O_aload 0 1), (1, O_iload 1 1), (2, O_int 1 1), (3, O_callV 2 0 (fun S => S) (fun _ S' => S') sp_X7_of), (6, O_i2l), (7, O_iload 2 1), (8, O_i2l), (9, O_lmul), (10, O_iload 2 1), (11, O_i2l), (12, O_lmul), (13, O_long 1000000 3), (16, O_ldiv), (17, O_lstore 4 2), (19, O_lload 4 2), (21, O_iload 3 1), (22, O_i2l), (23, O_lcmp), (24, O_if_gt 31), (27, O_int 0 1), (28, O_goto 51), (31, O_lload 4 2), (33, O_iload 3 1), (34, O_i2l), (35, O_lsub), (36, O_long 1000 3), (39, O_lmul), (40, O_aload 0 1), (41, O_iload 1 1), (42, O_int 2 1), (43, O_callV 2 0 (fun S => S) (fun _ S' => S') sp_X7_of), (46, O_i2l), (47, O_ldiv), (48, O_callS 1 sp_X7_root), (51, O_iret)]
abbrev cut_X7_flow : List Nat := []
set_option maxRecDepth 100000 in
theorem okc_X7_flow {E : En} (F : Fx E RX7 cX7_flow 6 1) (G : Fr E (some .int)) : CodOk E aW cod_X7_flow := by
  unfold CodOk cod_X7_flow
  refine List.forall_mem_cons.mpr ⟨ok_aload_n F dX7_flow_0 rfl (by decide), ?_⟩
  refine List.forall_mem_cons.mpr ⟨ok_iload_n F dX7_flow_1 rfl (by decide), ?_⟩
  refine List.forall_mem_cons.mpr ⟨ok_iconst F dX7_flow_2 (by decide) (by decide), ?_⟩
  refine List.forall_mem_cons.mpr ⟨ok_callV F spok_X7_of (ln_id aW) rcv_aW (by decide +kernel) (by decide) dX7_flow_3 (by decide), ?_⟩
  refine List.forall_mem_cons.mpr ⟨ok_i2l F dX7_flow_6 (by decide), ?_⟩
  refine List.forall_mem_cons.mpr ⟨ok_iload_n F dX7_flow_7 rfl (by decide), ?_⟩
  refine List.forall_mem_cons.mpr ⟨ok_i2l F dX7_flow_8 (by decide), ?_⟩
  refine List.forall_mem_cons.mpr ⟨ok_lmul F dX7_flow_9 (by decide), ?_⟩
  refine List.forall_mem_cons.mpr ⟨ok_iload_n F dX7_flow_10 rfl (by decide), ?_⟩
  refine List.forall_mem_cons.mpr ⟨ok_i2l F dX7_flow_11 (by decide), ?_⟩
  refine List.forall_mem_cons.mpr ⟨ok_lmul F dX7_flow_12 (by decide), ?_⟩
  refine List.forall_mem_cons.mpr ⟨ok_ldc2 F (ix := 86) (wsHas_mem (l := [Jvm.Cond.constantLong RX7 86 1000000]) (by decide +kernel) (by simp)) dX7_flow_13 (by decide), ?_⟩
  refine List.forall_mem_cons.mpr ⟨ok_ldiv F dX7_flow_16 (by decide), ?_⟩
  refine List.forall_mem_cons.mpr ⟨ok_lstore F dX7_flow_17 (by decide) (by decide), ?_⟩
  refine List.forall_mem_cons.mpr ⟨ok_lload F dX7_flow_19 (by decide), ?_⟩
  refine List.forall_mem_cons.mpr ⟨ok_iload_n F dX7_flow_21 rfl (by decide), ?_⟩
  refine List.forall_mem_cons.mpr ⟨ok_i2l F dX7_flow_22 (by decide), ?_⟩
  refine List.forall_mem_cons.mpr ⟨ok_lcmp F dX7_flow_23 (by decide), ?_⟩
  refine List.forall_mem_cons.mpr ⟨ok_if_gt F dX7_flow_24 (by decide) (by decide) (by decide), ?_⟩
  refine List.forall_mem_cons.mpr ⟨ok_iconst F dX7_flow_27 (by decide) (by decide), ?_⟩
  refine List.forall_mem_cons.mpr ⟨ok_goto F dX7_flow_28 (by decide) (by decide) (by decide), ?_⟩
  refine List.forall_mem_cons.mpr ⟨ok_lload F dX7_flow_31 (by decide), ?_⟩
  refine List.forall_mem_cons.mpr ⟨ok_iload_n F dX7_flow_33 rfl (by decide), ?_⟩
  refine List.forall_mem_cons.mpr ⟨ok_i2l F dX7_flow_34 (by decide), ?_⟩
  refine List.forall_mem_cons.mpr ⟨ok_lsub F dX7_flow_35 (by decide), ?_⟩
  refine List.forall_mem_cons.mpr ⟨ok_ldc2 F (ix := 40) (wsHas_mem (l := [Jvm.Cond.constantLong RX7 40 1000]) (by decide +kernel) (by simp)) dX7_flow_36 (by decide), ?_⟩
  refine List.forall_mem_cons.mpr ⟨ok_lmul F dX7_flow_39 (by decide), ?_⟩
  refine List.forall_mem_cons.mpr ⟨ok_aload_n F dX7_flow_40 rfl (by decide), ?_⟩
  refine List.forall_mem_cons.mpr ⟨ok_iload_n F dX7_flow_41 rfl (by decide), ?_⟩
  refine List.forall_mem_cons.mpr ⟨ok_iconst F dX7_flow_42 (by decide) (by decide), ?_⟩
  refine List.forall_mem_cons.mpr ⟨ok_callV F spok_X7_of (ln_id aW) rcv_aW (by decide +kernel) (by decide) dX7_flow_43 (by decide), ?_⟩
  refine List.forall_mem_cons.mpr ⟨ok_i2l F dX7_flow_46 (by decide), ?_⟩
  refine List.forall_mem_cons.mpr ⟨ok_ldiv F dX7_flow_47 (by decide), ?_⟩
  refine List.forall_mem_cons.mpr ⟨ok_callS F spok_X7_root (by decide +kernel) rfl (by decide) dX7_flow_48 (by decide), ?_⟩
  refine List.forall_mem_cons.mpr ⟨ok_iret F G dX7_flow_51 (by decide), ?_⟩
  exact fun _ h => absurd h List.not_mem_nil
set_option maxRecDepth 100000 in
theorem w_X7_flow : (∀ (K : Kt QT) (n : Nat) (L : xL) (st : List Value) (S : QT), nx cod_X7_flow cut_X7_flow K (n + 1) 0 L st S = (O_aload 0 1) (nx cod_X7_flow cut_X7_flow K n) 0 L st S) ∧
  (∀ (K : Kt QT) (n : Nat) (L : xL) (st : List Value) (S : QT), nx cod_X7_flow cut_X7_flow K (n + 1) 1 L st S = (O_iload 1 1) (nx cod_X7_flow cut_X7_flow K n) 1 L st S) ∧
  (∀ (K : Kt QT) (n : Nat) (L : xL) (st : List Value) (S : QT), nx cod_X7_flow cut_X7_flow K (n + 1) 2 L st S = (O_int 1 1) (nx cod_X7_flow cut_X7_flow K n) 2 L st S) ∧
  (∀ (K : Kt QT) (n : Nat) (L : xL) (st : List Value) (S : QT), nx cod_X7_flow cut_X7_flow K (n + 1) 3 L st S = (O_callV 2 0 (fun S => S) (fun _ S' => S') sp_X7_of) (nx cod_X7_flow cut_X7_flow K n) 3 L st S) ∧
  (∀ (K : Kt QT) (n : Nat) (L : xL) (st : List Value) (S : QT), nx cod_X7_flow cut_X7_flow K (n + 1) 6 L st S = (O_i2l) (nx cod_X7_flow cut_X7_flow K n) 6 L st S) ∧
  (∀ (K : Kt QT) (n : Nat) (L : xL) (st : List Value) (S : QT), nx cod_X7_flow cut_X7_flow K (n + 1) 7 L st S = (O_iload 2 1) (nx cod_X7_flow cut_X7_flow K n) 7 L st S) ∧
  (∀ (K : Kt QT) (n : Nat) (L : xL) (st : List Value) (S : QT), nx cod_X7_flow cut_X7_flow K (n + 1) 8 L st S = (O_i2l) (nx cod_X7_flow cut_X7_flow K n) 8 L st S) ∧
  (∀ (K : Kt QT) (n : Nat) (L : xL) (st : List Value) (S : QT), nx cod_X7_flow cut_X7_flow K (n + 1) 9 L st S = (O_lmul) (nx cod_X7_flow cut_X7_flow K n) 9 L st S) ∧
  (∀ (K : Kt QT) (n : Nat) (L : xL) (st : List Value) (S : QT), nx cod_X7_flow cut_X7_flow K (n + 1) 10 L st S = (O_iload 2 1) (nx cod_X7_flow cut_X7_flow K n) 10 L st S) ∧
  (∀ (K : Kt QT) (n : Nat) (L : xL) (st : List Value) (S : QT), nx cod_X7_flow cut_X7_flow K (n + 1) 11 L st S = (O_i2l) (nx cod_X7_flow cut_X7_flow K n) 11 L st S) ∧
  (∀ (K : Kt QT) (n : Nat) (L : xL) (st : List Value) (S : QT), nx cod_X7_flow cut_X7_flow K (n + 1) 12 L st S = (O_lmul) (nx cod_X7_flow cut_X7_flow K n) 12 L st S) ∧
  (∀ (K : Kt QT) (n : Nat) (L : xL) (st : List Value) (S : QT), nx cod_X7_flow cut_X7_flow K (n + 1) 13 L st S = (O_long 1000000 3) (nx cod_X7_flow cut_X7_flow K n) 13 L st S) ∧
  (∀ (K : Kt QT) (n : Nat) (L : xL) (st : List Value) (S : QT), nx cod_X7_flow cut_X7_flow K (n + 1) 16 L st S = (O_ldiv) (nx cod_X7_flow cut_X7_flow K n) 16 L st S) ∧
  (∀ (K : Kt QT) (n : Nat) (L : xL) (st : List Value) (S : QT), nx cod_X7_flow cut_X7_flow K (n + 1) 17 L st S = (O_lstore 4 2) (nx cod_X7_flow cut_X7_flow K n) 17 L st S) ∧
  (∀ (K : Kt QT) (n : Nat) (L : xL) (st : List Value) (S : QT), nx cod_X7_flow cut_X7_flow K (n + 1) 19 L st S = (O_lload 4 2) (nx cod_X7_flow cut_X7_flow K n) 19 L st S) ∧
  (∀ (K : Kt QT) (n : Nat) (L : xL) (st : List Value) (S : QT), nx cod_X7_flow cut_X7_flow K (n + 1) 21 L st S = (O_iload 3 1) (nx cod_X7_flow cut_X7_flow K n) 21 L st S) ∧
  (∀ (K : Kt QT) (n : Nat) (L : xL) (st : List Value) (S : QT), nx cod_X7_flow cut_X7_flow K (n + 1) 22 L st S = (O_i2l) (nx cod_X7_flow cut_X7_flow K n) 22 L st S) ∧
  (∀ (K : Kt QT) (n : Nat) (L : xL) (st : List Value) (S : QT), nx cod_X7_flow cut_X7_flow K (n + 1) 23 L st S = (O_lcmp) (nx cod_X7_flow cut_X7_flow K n) 23 L st S) ∧
  (∀ (K : Kt QT) (n : Nat) (L : xL) (st : List Value) (S : QT), nx cod_X7_flow cut_X7_flow K (n + 1) 24 L st S = (O_if_gt 31) (nx cod_X7_flow cut_X7_flow K n) 24 L st S) ∧
  (∀ (K : Kt QT) (n : Nat) (L : xL) (st : List Value) (S : QT), nx cod_X7_flow cut_X7_flow K (n + 1) 27 L st S = (O_int 0 1) (nx cod_X7_flow cut_X7_flow K n) 27 L st S) ∧
  (∀ (K : Kt QT) (n : Nat) (L : xL) (st : List Value) (S : QT), nx cod_X7_flow cut_X7_flow K (n + 1) 28 L st S = (O_goto 51) (nx cod_X7_flow cut_X7_flow K n) 28 L st S) ∧
  (∀ (K : Kt QT) (n : Nat) (L : xL) (st : List Value) (S : QT), nx cod_X7_flow cut_X7_flow K (n + 1) 31 L st S = (O_lload 4 2) (nx cod_X7_flow cut_X7_flow K n) 31 L st S) ∧
  (∀ (K : Kt QT) (n : Nat) (L : xL) (st : List Value) (S : QT), nx cod_X7_flow cut_X7_flow K (n + 1) 33 L st S = (O_iload 3 1) (nx cod_X7_flow cut_X7_flow K n) 33 L st S) ∧
  (∀ (K : Kt QT) (n : Nat) (L : xL) (st : List Value) (S : QT), nx cod_X7_flow cut_X7_flow K (n + 1) 34 L st S = (O_i2l) (nx cod_X7_flow cut_X7_flow K n) 34 L st S) ∧
  (∀ (K : Kt QT) (n : Nat) (L : xL) (st : List Value) (S : QT), nx cod_X7_flow cut_X7_flow K (n + 1) 35 L st S = (O_lsub) (nx cod_X7_flow cut_X7_flow K n) 35 L st S) ∧
  (∀ (K : Kt QT) (n : Nat) (L : xL) (st : List Value) (S : QT), nx cod_X7_flow cut_X7_flow K (n + 1) 36 L st S = (O_long 1000 3) (nx cod_X7_flow cut_X7_flow K n) 36 L st S) ∧
  (∀ (K : Kt QT) (n : Nat) (L : xL) (st : List Value) (S : QT), nx cod_X7_flow cut_X7_flow K (n + 1) 39 L st S = (O_lmul) (nx cod_X7_flow cut_X7_flow K n) 39 L st S) ∧
  (∀ (K : Kt QT) (n : Nat) (L : xL) (st : List Value) (S : QT), nx cod_X7_flow cut_X7_flow K (n + 1) 40 L st S = (O_aload 0 1) (nx cod_X7_flow cut_X7_flow K n) 40 L st S) ∧
  (∀ (K : Kt QT) (n : Nat) (L : xL) (st : List Value) (S : QT), nx cod_X7_flow cut_X7_flow K (n + 1) 41 L st S = (O_iload 1 1) (nx cod_X7_flow cut_X7_flow K n) 41 L st S) ∧
  (∀ (K : Kt QT) (n : Nat) (L : xL) (st : List Value) (S : QT), nx cod_X7_flow cut_X7_flow K (n + 1) 42 L st S = (O_int 2 1) (nx cod_X7_flow cut_X7_flow K n) 42 L st S) ∧
  (∀ (K : Kt QT) (n : Nat) (L : xL) (st : List Value) (S : QT), nx cod_X7_flow cut_X7_flow K (n + 1) 43 L st S = (O_callV 2 0 (fun S => S) (fun _ S' => S') sp_X7_of) (nx cod_X7_flow cut_X7_flow K n) 43 L st S) ∧
  (∀ (K : Kt QT) (n : Nat) (L : xL) (st : List Value) (S : QT), nx cod_X7_flow cut_X7_flow K (n + 1) 46 L st S = (O_i2l) (nx cod_X7_flow cut_X7_flow K n) 46 L st S) ∧
  (∀ (K : Kt QT) (n : Nat) (L : xL) (st : List Value) (S : QT), nx cod_X7_flow cut_X7_flow K (n + 1) 47 L st S = (O_ldiv) (nx cod_X7_flow cut_X7_flow K n) 47 L st S) ∧
  (∀ (K : Kt QT) (n : Nat) (L : xL) (st : List Value) (S : QT), nx cod_X7_flow cut_X7_flow K (n + 1) 48 L st S = (O_callS 1 sp_X7_root) (nx cod_X7_flow cut_X7_flow K n) 48 L st S) ∧
  (∀ (K : Kt QT) (n : Nat) (L : xL) (st : List Value) (S : QT), nx cod_X7_flow cut_X7_flow K (n + 1) 51 L st S = (O_iret) (nx cod_X7_flow cut_X7_flow K n) 51 L st S) ∧
  (∀ (K : Kt QT) (n : Nat) (L : xL) (st : List Value) (S : QT), nx cod_X7_flow cut_X7_flow K (n + 1) 100000 L st S = K 100000 L st S) := by
  repeat' apply And.intro
  all_goals (intros; rfl)
set_option maxRecDepth 100000 in
theorem mk_X7_flow {P P' : QT} {r : Option Value} {p0 : Int32} {p1 : Int32} {p2 : Int32} (body : ∀ E : En, CodOk E aW cod_X7_flow → Gd E aW 100000 [] r.toList P' → Gd E aW 0 [some (.ref 0), some (.int p0), some (.int p1), some (.int p2), none, none] [] P) : Con yX7_flow cX7_flow 6 (some .int) 1 aW [.ref 0, .int p0, .int p1, .int p2] P r P' :=
  Con.of (by decide) ((aW_len P').trans (aW_len P).symm) rfl (Nat.le_of_ble_eq_true rfl) (fun E F G hr => body E (okc_X7_flow F G) hr)
set_option maxRecDepth 10000 in
theorem con_X7_flow (S : ST) (M : MT) (fl : Bool) (p : Int32) (sp : Int32) (pr : Int32) (hp : S.P.inv ∧ S.P.has p = true ∧ rng sp 0 1000 ∧ rng pr 0 2000) : Con yX7_flow cX7_flow 6 (some .int) 1 aW [.ref 0, .int p, .int sp, .int pr] (S, M, fl) (some (.int (S.P.flowOf p.toNatClampNeg sp pr))) ((S, M, fl)) := by
  refine mk_X7_flow (fun E C hr => ?_)
  obtain ⟨h1, h2, h3, hv⟩ := pumps_rng hp.1 hp.2.1
  obtain ⟨L, q, V, e1, e2, e3, e4, e5, e6⟩ := flow_facts h1 h2 hp.2.2.1 hp.2.2.2
  rw [e6] at hr
  have e7 : V < 4000000 → 0 ≤ (lN V).toInt ∧ (lN V).toInt < 4000000 ∧ (lN V).toInt.toNat = V := fun h => by rw [pk_lT (by omega)]; omega
  clear hp e6 h1 h2 h3
  by_cases c : q < L
  · obtain ⟨f1, f2⟩ := e4 c
    have f3 := e7 f2
    rw [if_pos c] at hr
    (refine nx_ok C (cuts := cut_X7_flow) 1000 _ _ _ _ ?_; simp only [w_X7_flow, ops_eq, xst_eq, call_eq, oK_eq, Option.toList_some, Option.toList_none, List.cons_append, List.nil_append, List.length_cons, List.length_nil, true_and, and_true, Nat.reduceAdd, aW_F, aW_A, aW_P, aW_w, abs_eq, O_asti_eq, v170, cl_eq, ST_id, MT_gs, ST_gs, PT_gs, ZT_gs, NT_gs, ET_gs, se_X7_of, se_X7_root, cmp_eq, v8_eq, cl_eq, hv, get_eq, e1, e2, e3, e5, c, f1, f3])
    clear e1 e2 e3 e4 e5 e7 f1 f2 f3 c hv C
    ((repeat' (with_reducible first | apply And.intro | intro _)) <;> simp_all [ST_id, MT_gs, ST_gs, PT_gs, ZT_gs, NT_gs, ET_gs])
  · rw [if_neg c] at hr
    (refine nx_ok C (cuts := cut_X7_flow) 1000 _ _ _ _ ?_; simp only [w_X7_flow, ops_eq, xst_eq, call_eq, oK_eq, Option.toList_some, Option.toList_none, List.cons_append, List.nil_append, List.length_cons, List.length_nil, true_and, and_true, Nat.reduceAdd, aW_F, aW_A, aW_P, aW_w, abs_eq, O_asti_eq, v170, cl_eq, ST_id, MT_gs, ST_gs, PT_gs, ZT_gs, NT_gs, ET_gs, se_X7_of, se_X7_root, cmp_eq, v8_eq, cl_eq, hv, get_eq, e1, e2, e3, e5, c])
    clear e1 e2 e3 e4 e5 e7 c hv C
    ((repeat' (with_reducible first | apply And.intro | intro _)) <;> simp_all [ST_id, MT_gs, ST_gs, PT_gs, ZT_gs, NT_gs, ET_gs])
def spc_X7_flow (S : ST) (M : MT) (fl : Bool) (p : Int32) (sp : Int32) (pr : Int32) (K : Option Value → QT → Prop) : Prop := (S.P.inv ∧ S.P.has p = true ∧ rng sp 0 1000 ∧ rng pr 0 2000) ∧ K (some (.int (S.P.flowOf p.toNatClampNeg sp pr))) ((S, M, fl))
def sp_X7_flow : Sp QT := fun av q K => match av with
  | [.ref 0, .int p, .int sp, .int pr] => spc_X7_flow q.1 q.2.1 q.2.2 p sp pr K
  | _ => False
theorem se_X7_flow (S : ST) (M : MT) (fl : Bool) (p : Int32) (sp : Int32) (pr : Int32) (K : Option Value → QT → Prop) : sp_X7_flow [.ref 0, .int p, .int sp, .int pr] (S, M, fl) K = ((S.P.inv ∧ S.P.has p = true ∧ rng sp 0 1000 ∧ rng pr 0 2000) ∧ K (some (.int (S.P.flowOf p.toNatClampNeg sp pr))) ((S, M, fl))) := rfl
theorem spok_X7_flow : SpOk yX7_flow cX7_flow 6 (some .int) 1 aW sp_X7_flow := by
  intro av q K h
  unfold sp_X7_flow at h
  split at h
  · rename_i p sp pr; refine ⟨_, _, ?_, con_X7_flow q.1 q.2.1 q.2.2 p sp pr h.1, h.2⟩; trivial
  · exact h.elim
theorem flowOf_rng {S : PT} {i : Nat} {sp pr : Int32} (h1 : rng (S.shutoffs i) 0 2000) (h2 : rng (S.steeps i) 1 1000) (h3 : rng sp 0 1000) (h4 : rng pr 0 2000) : rng (S.flowOf i sp pr) 0 2047 := by
  obtain ⟨L, q, V, e1, e2, e3, e4, e5, e6⟩ := flow_facts h1 h2 h3 h4
  rw [e6]
  split
  · rename_i c
    have h5 := rootN_ok (v := V) (by have := (e4 c).2; omega)
    unfold rng
    rw [nI_toInt (by omega)]
    omega
  · exact ⟨by decide, by decide⟩
theorem add_rng {x y : Int32} {a b c d : Int} (h : rng x a b) (g : rng y c d) (h0 : -2147483648 ≤ a + c) (h1 : b + d < 2147483648) : rng (x + y) (a + c) (b + d) := by
  have e : (x + y).toInt = x.toInt + y.toInt := by
    rw [Int32.toInt_add]
    unfold rng at h g
    exact Int.bmod_eq_of_le (by omega) (by omega)
  unfold rng at *
  rw [e]
  omega
theorem PT.flow_rng {S : PT} (h : S.inv) {pr : Int32} (h4 : rng pr 0 2000) : rng (S.flow pr) 0 20000 := by
  have h6 := h.1.2.1
  have := it_inv (f := fun p r => r + S.flowOf p (S.speeds p) pr) (a := (0 : Int32)) (n := S.n) (fun i r => rng r 0 (2047 * i)) ⟨by decide, by decide⟩ (fun i r hi hr => by
    obtain ⟨h1, h2, h3, _⟩ := h.2.1 i hi
    have := add_rng hr (flowOf_rng h1 h2 h3 h4) (by omega) (by omega)
    exact rng_mono this (by omega) (by omega))
  exact rng_mono this (by omega) (by omega)
theorem sub_rng {x y : Int32} {a b c d : Int} (h : rng x a b) (g : rng y c d) (h0 : -2147483648 ≤ a - d) (h1 : b - c < 2147483648) : rng (x - y) (a - d) (b - c) := by
  have e : (x - y).toInt = x.toInt - y.toInt := by
    rw [Int32.toInt_sub]
    unfold rng at h g
    exact Int.bmod_eq_of_le (by omega) (by omega)
  unfold rng at *
  rw [e]
  omega
theorem ST.sup_rng {S : ST} {n : Nat} (h : S.inv n) : rng S.sup 0 S.level.toInt := by
  have h1 := PT.flow_rng h.1 h.2.2.2.2.2.1
  have h2 := h.2.2.2.2.2.2.1
  unfold ST.sup
  split
  · rename_i q
    rw [Int32.lt_iff_toInt_lt] at q
    unfold rng at *
    omega
  · unfold rng at *
    omega
theorem ST.lvl_rng {S : ST} {n : Nat} (h : S.inv n) : rng (S.level - S.sup + S.settings 14) 0 21000 := by
  have h1 := ST.sup_rng h
  have h2 := h.2.2.2.2.2.2.1
  have h3 := h.2.2.2.2.1.2.2.2.2.2
  have e : (S.level - S.sup).toInt = S.level.toInt - S.sup.toInt := by
    rw [Int32.toInt_sub]
    unfold rng at h1 h2
    exact Int.bmod_eq_of_le (by omega) (by omega)
  have h4 : rng (S.level - S.sup) 0 20000 := by
    unfold rng at *
    omega
  exact rng_mono (add_rng h4 h3 (by omega) (by omega)) (by omega) (by omega)
theorem ST.newLevel_rng {S : ST} {n : Nat} (h : S.inv n) : rng (S.newLevel S.sup) 0 20000 := by
  have h1 := ST.lvl_rng h
  unfold ST.newLevel
  split
  · rename_i q
    rw [Int32.lt_iff_toInt_lt] at q
    exact ⟨h1.1, Int.le_of_lt q⟩
  · exact ⟨by decide, by decide⟩
theorem ST.water_inv {S : ST} {n : Nat} (h : S.inv n) : S.water.inv n := by
  have h1 : S.water1.inv n := by
    have hl := ST.newLevel_rng h
    obtain ⟨g1, g2, g3, g4, g5, g6, g7, g8⟩ := h
    exact ⟨PT.countM_inv g1, g2, g3, g4, g5, g6, hl, g8⟩
  unfold ST.water
  split
  · obtain ⟨g1, g2, g3, g4, g5, g6, g7, g8⟩ := h1
    exact ⟨g1, g2, g3, g4, g5, hold_rng (by decide), g7, g8⟩
  · exact h1
theorem ST.first_inv {S : ST} {n : Nat} (h : S.inv (n + 10)) : S.first.inv n := ST.watchL_inv (ST.night_inv (ST.water_inv (ST.tick_inv h)))
theorem ST.minute_inv {S : ST} {n : Nat} (h : S.inv (n + 17)) : S.minute.inv n := by
  have h1 := ST.first_inv (n := n + 7) h
  unfold ST.minute
  split
  · exact ST.anew_inv (ST.inv_le h1 (by omega))
  · exact ST.second_inv h1
