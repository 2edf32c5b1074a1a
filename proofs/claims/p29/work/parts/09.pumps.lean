/-! ===== Pumps ===== -/
def bI (b : Bool) : Int32 := if b = true then 1 else 0
theorem bI_eq : (∀ b, (bI b = 0) = (b = false)) ∧ (∀ b, (bI b = 1) = (b = true)) ∧ bI true = 1 ∧ bI false = 0 ∧ (∀ b, narrow .boolean (.int (bI b)) = .int (bI b)) ∧ (narrow .boolean (.int 0) = .int 0) ∧ (narrow .boolean (.int 1) = .int 1) := by
  refine ⟨fun b => ?_, fun b => ?_, rfl, rfl, fun b => ?_, rfl, rfl⟩ <;> cases b <;> simp [bI] <;> rfl
theorem cl_eq : ((0 : Int32).toNatClampNeg = 0) ∧ ((1 : Int32).toNatClampNeg = 1) ∧ ((2 : Int32).toNatClampNeg = 2) ∧ ((3 : Int32).toNatClampNeg = 3) ∧ ((4 : Int32).toNatClampNeg = 4) ∧ ((5 : Int32).toNatClampNeg = 5) ∧ ((6 : Int32).toNatClampNeg = 6) ∧ ((7 : Int32).toNatClampNeg = 7) ∧ ((8 : Int32).toNatClampNeg = 8) ∧ ((9 : Int32).toNatClampNeg = 9) ∧ ((10 : Int32).toNatClampNeg = 10) ∧ ((11 : Int32).toNatClampNeg = 11) ∧ ((12 : Int32).toNatClampNeg = 12) ∧ ((13 : Int32).toNatClampNeg = 13) ∧ ((14 : Int32).toNatClampNeg = 14) ∧ ((15 : Int32).toNatClampNeg = 15) ∧ ((16 : Int32).toNatClampNeg = 16) ∧ ((17 : Int32).toNatClampNeg = 17) ∧ ((18 : Int32).toNatClampNeg = 18) ∧ ((19 : Int32).toNatClampNeg = 19) := by decide +kernel
def it {α : Type} (f : Nat → α → α) (a : α) : Nat → α
  | 0 => a
  | n + 1 => f n (it f a n)
theorem it_up {α : Type} {f : Nat → α → α} {a : α} {n : Nat} (I : Nat → α → Prop) (G : Nat → α → Prop) (h0 : I 0 a) (hI : ∀ i x, i < n → I i x → I (i + 1) (f i x)) (hs : ∀ i x, i < n → I i x → G (i + 1) (f i x) → G i x) (h : G n (it f a n)) : G 0 a := by
  have hi : ∀ k, k ≤ n → I k (it f a k) := by
    intro k
    induction k with
    | zero => exact fun _ => h0
    | succ k ih => exact fun hk => hI k _ hk (ih (Nat.le_of_lt hk))
  have hg : ∀ k, k ≤ n → G (n - k) (it f a (n - k)) := by
    intro k
    induction k with
    | zero => exact fun _ => h
    | succ k ih =>
      intro hk
      have e : n - k = n - (k + 1) + 1 := by omega
      have h1 := ih (by omega)
      rw [e] at h1
      exact hs _ _ (by omega) (hi _ (by omega)) h1
  have h2 := hg n (Nat.le_refl n)
  rw [Nat.sub_self] at h2
  exact h2
theorem it_inv {α : Type} {f : Nat → α → α} {a : α} {n : Nat} (I : Nat → α → Prop) (h0 : I 0 a) (hI : ∀ i x, i < n → I i x → I (i + 1) (f i x)) : I n (it f a n) := by
  induction n with
  | zero => exact h0
  | succ n ih => exact hI n _ (Nat.lt_succ_self n) (ih fun i x hi => hI i x (Nat.lt_succ_of_lt hi))
theorem it_congr {α : Type} {f g : Nat → α → α} {a : α} : ∀ {n : Nat}, (∀ i x, i < n → f i x = g i x) → it f a n = it g a n
  | 0, _ => rfl
  | n + 1, h => by rw [it, it, it_congr (fun i x hi => h i x (Nat.lt_succ_of_lt hi)), h n _ (Nat.lt_succ_self n)]
/-- a size: s is n, at most N -/
def isN (s : Int32) (n N : Nat) : Prop := s = nI n ∧ n ≤ N ∧ N < 1000
theorem ixs {s : Int32} {i n N : Nat} (hs : isN s n N) (h : i < n) : vp_in (nI i) N ∧ (nI i).toNatClampNeg = i ∧ nI i < s ∧ nI i + 1 = nI (i + 1) ∧ ¬ nI i < 0 ∧ ¬ nI i = -1 := by
  obtain ⟨rfl, h1, h2⟩ := hs
  refine ⟨vp_in_nI (by omega) (by omega), nI_clamp (by omega), nI_lt h (by omega), nI_1 i, nI_pos (by omega), fun e => nI_pos (n := i) (by omega) (by rw [e]; decide)⟩
theorem ixe {s : Int32} {n N : Nat} (hs : isN s n N) : ¬ nI n < s ∧ nI n = s := by
  obtain ⟨rfl, h1, h2⟩ := hs
  exact ⟨nI_nlt (Nat.le_refl n) (by omega), rfl⟩
theorem isN_in {s p : Int32} {n N : Nat} (hs : isN s n N) (h0 : ¬ p < 0) (h1 : p < s) : ∃ i, i < n ∧ p = nI i := by
  obtain ⟨rfl, h2, h3⟩ := hs
  rcases pk_ix p (n := n) (by omega) with h | h | ⟨j, hj, rfl⟩
  · exact absurd h h0
  · exact absurd h1 (by rw [Int32.not_lt]; exact h)
  · exact ⟨j, hj, rfl⟩
theorem isN_vp {s p : Int32} {n N : Nat} (hs : isN s n N) (h0 : ¬ p < 0) (h1 : p < s) : vp_in p N := by
  obtain ⟨i, hi, rfl⟩ := isN_in hs h0 h1
  exact (ixs hs hi).1
def PT.n (S : PT) : Nat := S.size.toNatClampNeg
def PT.ok (S : PT) : Prop := isN S.size S.n 6
def PT.run (S : PT) (i : Nat) : Bool := decide (0 < S.speeds i)
def PT.rdy (S : PT) (i : Nat) : Bool := decide (¬ S.inService i = 0 ∧ S.speeds i = 0)
def PT.has (S : PT) (p : Int32) : Bool := decide (¬ p < 0 ∧ p < S.size)
theorem PT_has : (∀ (S : PT) (x : Nat → Int32), (S.sStarts x).has = S.has) ∧ (∀ (S : PT) (x : Nat → Int32), (S.sSpeeds x).has = S.has) ∧ (∀ (S : PT) (x : Nat → Int32), (S.sMinutes x).has = S.has) ∧ (∀ (S : PT) (x : Nat → Int32), (S.sSince x).has = S.has) ∧ (∀ (S : PT) (x : Int32), (S.sVrb x).has = S.has) := ⟨fun _ _ => rfl, fun _ _ => rfl, fun _ _ => rfl, fun _ _ => rfl, fun _ _ => rfl⟩
theorem PT.has_in {S : PT} {p : Int32} (hs : S.ok) (h : S.has p = true) : vp_in p 6 := by
  simp only [PT.has, decide_eq_true_eq] at h
  exact isN_vp hs h.1 h.2
def PT.runs (S : PT) (p : Int32) : Bool := S.has p && S.run p.toNatClampNeg
def PT.vAt (S : PT) (s : Int32) : Bool := S.has S.vrb && decide (S.speeds S.vrb.toNatClampNeg = s)
theorem flX3_47 : fldOk RX3 47 3 8 = true := by decide +kernel
def cod_X3_has : List (Nat × Op PT) := [(0, O_iload 1 1), (1, O_if_lt 16), (4, O_iload 1 1), (5, O_aload 0 1), (6, O_getf pW 3 8), (9, O_icmp_ge 16), (12, O_int 1 1), (13, O_goto 17), (16, O_int 0 1), (17, O_zret)]
abbrev cut_X3_has : List Nat := []
set_option maxRecDepth 100000 in
theorem okc_X3_has {E : En} (F : Fx E RX3 cX3_has 2 0) (G : Fr E (some .boolean)) : CodOk E pW cod_X3_has := by
  unfold CodOk cod_X3_has
  refine List.forall_mem_cons.mpr ⟨ok_iload_n F dX3_has_0 rfl (by decide), ?_⟩
  refine List.forall_mem_cons.mpr ⟨ok_if_lt F dX3_has_1 (by decide) (by decide) (by decide), ?_⟩
  refine List.forall_mem_cons.mpr ⟨ok_iload_n F dX3_has_4 rfl (by decide), ?_⟩
  refine List.forall_mem_cons.mpr ⟨ok_aload_n F dX3_has_5 rfl (by decide), ?_⟩
  refine List.forall_mem_cons.mpr ⟨ok_getf F flX3_47 dX3_has_6 (by decide), ?_⟩
  refine List.forall_mem_cons.mpr ⟨ok_icmp_ge F dX3_has_9 (by decide) (by decide) (by decide), ?_⟩
  refine List.forall_mem_cons.mpr ⟨ok_iconst F dX3_has_12 (by decide) (by decide), ?_⟩
  refine List.forall_mem_cons.mpr ⟨ok_goto F dX3_has_13 (by decide) (by decide) (by decide), ?_⟩
  refine List.forall_mem_cons.mpr ⟨ok_iconst F dX3_has_16 (by decide) (by decide), ?_⟩
  refine List.forall_mem_cons.mpr ⟨ok_zret F G dX3_has_17 (by decide), ?_⟩
  exact fun _ h => absurd h List.not_mem_nil
set_option maxRecDepth 100000 in
theorem w_X3_has : (∀ (K : Kt PT) (n : Nat) (L : xL) (st : List Value) (S : PT), nx cod_X3_has cut_X3_has K (n + 1) 0 L st S = (O_iload 1 1) (nx cod_X3_has cut_X3_has K n) 0 L st S) ∧
  (∀ (K : Kt PT) (n : Nat) (L : xL) (st : List Value) (S : PT), nx cod_X3_has cut_X3_has K (n + 1) 1 L st S = (O_if_lt 16) (nx cod_X3_has cut_X3_has K n) 1 L st S) ∧
  (∀ (K : Kt PT) (n : Nat) (L : xL) (st : List Value) (S : PT), nx cod_X3_has cut_X3_has K (n + 1) 4 L st S = (O_iload 1 1) (nx cod_X3_has cut_X3_has K n) 4 L st S) ∧
  (∀ (K : Kt PT) (n : Nat) (L : xL) (st : List Value) (S : PT), nx cod_X3_has cut_X3_has K (n + 1) 5 L st S = (O_aload 0 1) (nx cod_X3_has cut_X3_has K n) 5 L st S) ∧
  (∀ (K : Kt PT) (n : Nat) (L : xL) (st : List Value) (S : PT), nx cod_X3_has cut_X3_has K (n + 1) 6 L st S = (O_getf pW 3 8) (nx cod_X3_has cut_X3_has K n) 6 L st S) ∧
  (∀ (K : Kt PT) (n : Nat) (L : xL) (st : List Value) (S : PT), nx cod_X3_has cut_X3_has K (n + 1) 9 L st S = (O_icmp_ge 16) (nx cod_X3_has cut_X3_has K n) 9 L st S) ∧
  (∀ (K : Kt PT) (n : Nat) (L : xL) (st : List Value) (S : PT), nx cod_X3_has cut_X3_has K (n + 1) 12 L st S = (O_int 1 1) (nx cod_X3_has cut_X3_has K n) 12 L st S) ∧
  (∀ (K : Kt PT) (n : Nat) (L : xL) (st : List Value) (S : PT), nx cod_X3_has cut_X3_has K (n + 1) 13 L st S = (O_goto 17) (nx cod_X3_has cut_X3_has K n) 13 L st S) ∧
  (∀ (K : Kt PT) (n : Nat) (L : xL) (st : List Value) (S : PT), nx cod_X3_has cut_X3_has K (n + 1) 16 L st S = (O_int 0 1) (nx cod_X3_has cut_X3_has K n) 16 L st S) ∧
  (∀ (K : Kt PT) (n : Nat) (L : xL) (st : List Value) (S : PT), nx cod_X3_has cut_X3_has K (n + 1) 17 L st S = (O_zret) (nx cod_X3_has cut_X3_has K n) 17 L st S) ∧
  (∀ (K : Kt PT) (n : Nat) (L : xL) (st : List Value) (S : PT), nx cod_X3_has cut_X3_has K (n + 1) 100000 L st S = K 100000 L st S) := by
  repeat' apply And.intro
  all_goals (intros; rfl)
set_option maxRecDepth 100000 in
theorem mk_X3_has {P P' : PT} {r : Option Value} {p0 : Int32} (body : ∀ E : En, CodOk E pW cod_X3_has → Gd E pW 100000 [] r.toList P' → Gd E pW 0 [some (.ref 0), some (.int p0)] [] P) : Con yX3_has cX3_has 2 (some .boolean) 0 pW [.ref 0, .int p0] P r P' :=
  Con.of (by decide) rfl rfl (Nat.le_of_ble_eq_true rfl) (fun E F G hr => body E (okc_X3_has F G) hr)
theorem con_X3_has (S : PT) (p : Int32) : Con yX3_has cX3_has 2 (some .boolean) 0 pW [.ref 0, .int p] S (some (.int (bI (S.has p)))) (S) := by
  refine mk_X3_has (fun E C hr => ?_)
  (refine nx_ok C (cuts := cut_X3_has) 1000 _ _ _ _ ?_; simp only [w_X3_has, ops_eq, xst_eq, call_eq, oK_eq, Option.toList_some, Option.toList_none, List.cons_append, List.nil_append, List.length_cons, List.length_nil, true_and, and_true, Nat.reduceAdd, pW_F, pW_A, pW_S, pW_P, PT_gs, bI_eq])
  ((repeat' (with_reducible first | apply And.intro | intro _)) <;> simp_all [PT.has, bI, PT_gs])
def sp_X3_has : Sp PT := fun av S K => match av with
  | [.ref 0, .int p] => K (some (.int (bI (S.has p)))) (S)
  | _ => False
theorem se_X3_has (p : Int32) (S : PT) (K : Option Value → PT → Prop) : sp_X3_has [.ref 0, .int p] S K = (K (some (.int (bI (S.has p)))) (S)) := rfl
theorem spok_X3_has : SpOk yX3_has cX3_has 2 (some .boolean) 0 pW sp_X3_has := by
  intro av S K h
  unfold sp_X3_has at h
  split at h
  · rename_i p; exact ⟨some (.int (bI (S.has p))), S, trivial, con_X3_has S p, h⟩
  · exact h.elim
theorem flX3_21 : fldOk RX3 21 3 3 = true := by decide +kernel
theorem flX3_25 : fldOk RX3 25 3 4 = true := by decide +kernel
def cod_X3_isReady : List (Nat × Op PT) := [(0, O_aload 0 1), (1, O_getf pW 3 3), (4, O_iload 1 1), (5, O_ald pW 1), (6, O_if_eq 22), (9, O_aload 0 1), (10, O_getf pW 3 4), (13, O_iload 1 1), (14, O_ald pW 0), (15, O_if_ne 22), (18, O_int 1 1), (19, O_goto 23), (22, O_int 0 1), (23, O_zret)]
abbrev cut_X3_isReady : List Nat := []
set_option maxRecDepth 100000 in
theorem okc_X3_isReady {E : En} (F : Fx E RX3 cX3_isReady 2 0) (G : Fr E (some .boolean)) : CodOk E pW cod_X3_isReady := by
  unfold CodOk cod_X3_isReady
  refine List.forall_mem_cons.mpr ⟨ok_aload_n F dX3_isReady_0 rfl (by decide), ?_⟩
  refine List.forall_mem_cons.mpr ⟨ok_getf F flX3_21 dX3_isReady_1 (by decide), ?_⟩
  refine List.forall_mem_cons.mpr ⟨ok_iload_n F dX3_isReady_4 rfl (by decide), ?_⟩
  refine List.forall_mem_cons.mpr ⟨ok_zald F dX3_isReady_5 (by decide), ?_⟩
  refine List.forall_mem_cons.mpr ⟨ok_if_eq F dX3_isReady_6 (by decide) (by decide) (by decide), ?_⟩
  refine List.forall_mem_cons.mpr ⟨ok_aload_n F dX3_isReady_9 rfl (by decide), ?_⟩
  refine List.forall_mem_cons.mpr ⟨ok_getf F flX3_25 dX3_isReady_10 (by decide), ?_⟩
  refine List.forall_mem_cons.mpr ⟨ok_iload_n F dX3_isReady_13 rfl (by decide), ?_⟩
  refine List.forall_mem_cons.mpr ⟨ok_iald F dX3_isReady_14 (by decide), ?_⟩
  refine List.forall_mem_cons.mpr ⟨ok_if_ne F dX3_isReady_15 (by decide) (by decide) (by decide), ?_⟩
  refine List.forall_mem_cons.mpr ⟨ok_iconst F dX3_isReady_18 (by decide) (by decide), ?_⟩
  refine List.forall_mem_cons.mpr ⟨ok_goto F dX3_isReady_19 (by decide) (by decide) (by decide), ?_⟩
  refine List.forall_mem_cons.mpr ⟨ok_iconst F dX3_isReady_22 (by decide) (by decide), ?_⟩
  refine List.forall_mem_cons.mpr ⟨ok_zret F G dX3_isReady_23 (by decide), ?_⟩
  exact fun _ h => absurd h List.not_mem_nil
set_option maxRecDepth 100000 in
theorem w_X3_isReady : (∀ (K : Kt PT) (n : Nat) (L : xL) (st : List Value) (S : PT), nx cod_X3_isReady cut_X3_isReady K (n + 1) 0 L st S = (O_aload 0 1) (nx cod_X3_isReady cut_X3_isReady K n) 0 L st S) ∧
  (∀ (K : Kt PT) (n : Nat) (L : xL) (st : List Value) (S : PT), nx cod_X3_isReady cut_X3_isReady K (n + 1) 1 L st S = (O_getf pW 3 3) (nx cod_X3_isReady cut_X3_isReady K n) 1 L st S) ∧
  (∀ (K : Kt PT) (n : Nat) (L : xL) (st : List Value) (S : PT), nx cod_X3_isReady cut_X3_isReady K (n + 1) 4 L st S = (O_iload 1 1) (nx cod_X3_isReady cut_X3_isReady K n) 4 L st S) ∧
  (∀ (K : Kt PT) (n : Nat) (L : xL) (st : List Value) (S : PT), nx cod_X3_isReady cut_X3_isReady K (n + 1) 5 L st S = (O_ald pW 1) (nx cod_X3_isReady cut_X3_isReady K n) 5 L st S) ∧
  (∀ (K : Kt PT) (n : Nat) (L : xL) (st : List Value) (S : PT), nx cod_X3_isReady cut_X3_isReady K (n + 1) 6 L st S = (O_if_eq 22) (nx cod_X3_isReady cut_X3_isReady K n) 6 L st S) ∧
  (∀ (K : Kt PT) (n : Nat) (L : xL) (st : List Value) (S : PT), nx cod_X3_isReady cut_X3_isReady K (n + 1) 9 L st S = (O_aload 0 1) (nx cod_X3_isReady cut_X3_isReady K n) 9 L st S) ∧
  (∀ (K : Kt PT) (n : Nat) (L : xL) (st : List Value) (S : PT), nx cod_X3_isReady cut_X3_isReady K (n + 1) 10 L st S = (O_getf pW 3 4) (nx cod_X3_isReady cut_X3_isReady K n) 10 L st S) ∧
  (∀ (K : Kt PT) (n : Nat) (L : xL) (st : List Value) (S : PT), nx cod_X3_isReady cut_X3_isReady K (n + 1) 13 L st S = (O_iload 1 1) (nx cod_X3_isReady cut_X3_isReady K n) 13 L st S) ∧
  (∀ (K : Kt PT) (n : Nat) (L : xL) (st : List Value) (S : PT), nx cod_X3_isReady cut_X3_isReady K (n + 1) 14 L st S = (O_ald pW 0) (nx cod_X3_isReady cut_X3_isReady K n) 14 L st S) ∧
  (∀ (K : Kt PT) (n : Nat) (L : xL) (st : List Value) (S : PT), nx cod_X3_isReady cut_X3_isReady K (n + 1) 15 L st S = (O_if_ne 22) (nx cod_X3_isReady cut_X3_isReady K n) 15 L st S) ∧
  (∀ (K : Kt PT) (n : Nat) (L : xL) (st : List Value) (S : PT), nx cod_X3_isReady cut_X3_isReady K (n + 1) 18 L st S = (O_int 1 1) (nx cod_X3_isReady cut_X3_isReady K n) 18 L st S) ∧
  (∀ (K : Kt PT) (n : Nat) (L : xL) (st : List Value) (S : PT), nx cod_X3_isReady cut_X3_isReady K (n + 1) 19 L st S = (O_goto 23) (nx cod_X3_isReady cut_X3_isReady K n) 19 L st S) ∧
  (∀ (K : Kt PT) (n : Nat) (L : xL) (st : List Value) (S : PT), nx cod_X3_isReady cut_X3_isReady K (n + 1) 22 L st S = (O_int 0 1) (nx cod_X3_isReady cut_X3_isReady K n) 22 L st S) ∧
  (∀ (K : Kt PT) (n : Nat) (L : xL) (st : List Value) (S : PT), nx cod_X3_isReady cut_X3_isReady K (n + 1) 23 L st S = (O_zret) (nx cod_X3_isReady cut_X3_isReady K n) 23 L st S) ∧
  (∀ (K : Kt PT) (n : Nat) (L : xL) (st : List Value) (S : PT), nx cod_X3_isReady cut_X3_isReady K (n + 1) 100000 L st S = K 100000 L st S) := by
  repeat' apply And.intro
  all_goals (intros; rfl)
set_option maxRecDepth 100000 in
theorem mk_X3_isReady {P P' : PT} {r : Option Value} {p0 : Int32} (body : ∀ E : En, CodOk E pW cod_X3_isReady → Gd E pW 100000 [] r.toList P' → Gd E pW 0 [some (.ref 0), some (.int p0)] [] P) : Con yX3_isReady cX3_isReady 2 (some .boolean) 0 pW [.ref 0, .int p0] P r P' :=
  Con.of (by decide) rfl rfl (Nat.le_of_ble_eq_true rfl) (fun E F G hr => body E (okc_X3_isReady F G) hr)
theorem con_X3_isReady (S : PT) (p : Int32) (hp : vp_in p 6) : Con yX3_isReady cX3_isReady 2 (some .boolean) 0 pW [.ref 0, .int p] S (some (.int (bI (S.rdy p.toNatClampNeg)))) (S) := by
  refine mk_X3_isReady (fun E C hr => ?_)
  (refine nx_ok C (cuts := cut_X3_isReady) 1000 _ _ _ _ ?_; simp only [w_X3_isReady, ops_eq, xst_eq, call_eq, oK_eq, Option.toList_some, Option.toList_none, List.cons_append, List.nil_append, List.length_cons, List.length_nil, true_and, and_true, Nat.reduceAdd, pW_F, pW_A, pW_S, pW_P, PT_gs, bI_eq])
  ((repeat' (with_reducible first | apply And.intro | intro _)) <;> simp_all [PT.rdy, bI, PT_gs])
def sp_X3_isReady : Sp PT := fun av S K => match av with
  | [.ref 0, .int p] => (vp_in p 6) ∧ K (some (.int (bI (S.rdy p.toNatClampNeg)))) (S)
  | _ => False
theorem se_X3_isReady (p : Int32) (S : PT) (K : Option Value → PT → Prop) : sp_X3_isReady [.ref 0, .int p] S K = ((vp_in p 6) ∧ K (some (.int (bI (S.rdy p.toNatClampNeg)))) (S)) := rfl
theorem spok_X3_isReady : SpOk yX3_isReady cX3_isReady 2 (some .boolean) 0 pW sp_X3_isReady := by
  intro av S K h
  unfold sp_X3_isReady at h
  split at h
  · rename_i p; exact ⟨some (.int (bI (S.rdy p.toNatClampNeg))), S, trivial, con_X3_isReady S p h.1, h.2⟩
  · exact h.elim
theorem flX3_37 : fldOk RX3 37 3 9 = true := by decide +kernel
def cod_X3_hasVariable : List (Nat × Op PT) := [(0, O_aload 0 1), (1, O_aload 0 1), (2, O_getf pW 3 9), (5, O_callV 1 0 (fun S => S) (fun _ S' => S') sp_X3_has), (8, O_zret)]
abbrev cut_X3_hasVariable : List Nat := []
set_option maxRecDepth 100000 in
theorem okc_X3_hasVariable {E : En} (F : Fx E RX3 cX3_hasVariable 1 1) (G : Fr E (some .boolean)) : CodOk E pW cod_X3_hasVariable := by
  unfold CodOk cod_X3_hasVariable
  refine List.forall_mem_cons.mpr ⟨ok_aload_n F dX3_hasVariable_0 rfl (by decide), ?_⟩
  refine List.forall_mem_cons.mpr ⟨ok_aload_n F dX3_hasVariable_1 rfl (by decide), ?_⟩
  refine List.forall_mem_cons.mpr ⟨ok_getf F flX3_37 dX3_hasVariable_2 (by decide), ?_⟩
  refine List.forall_mem_cons.mpr ⟨ok_callV F spok_X3_has (ln_id pW) rcv_pW (by decide +kernel) (by decide) dX3_hasVariable_5 (by decide), ?_⟩
  refine List.forall_mem_cons.mpr ⟨ok_zret F G dX3_hasVariable_8 (by decide), ?_⟩
  exact fun _ h => absurd h List.not_mem_nil
set_option maxRecDepth 100000 in
theorem w_X3_hasVariable : (∀ (K : Kt PT) (n : Nat) (L : xL) (st : List Value) (S : PT), nx cod_X3_hasVariable cut_X3_hasVariable K (n + 1) 0 L st S = (O_aload 0 1) (nx cod_X3_hasVariable cut_X3_hasVariable K n) 0 L st S) ∧
  (∀ (K : Kt PT) (n : Nat) (L : xL) (st : List Value) (S : PT), nx cod_X3_hasVariable cut_X3_hasVariable K (n + 1) 1 L st S = (O_aload 0 1) (nx cod_X3_hasVariable cut_X3_hasVariable K n) 1 L st S) ∧
  (∀ (K : Kt PT) (n : Nat) (L : xL) (st : List Value) (S : PT), nx cod_X3_hasVariable cut_X3_hasVariable K (n + 1) 2 L st S = (O_getf pW 3 9) (nx cod_X3_hasVariable cut_X3_hasVariable K n) 2 L st S) ∧
  (∀ (K : Kt PT) (n : Nat) (L : xL) (st : List Value) (S : PT), nx cod_X3_hasVariable cut_X3_hasVariable K (n + 1) 5 L st S = (O_callV 1 0 (fun S => S) (fun _ S' => S') sp_X3_has) (nx cod_X3_hasVariable cut_X3_hasVariable K n) 5 L st S) ∧
  (∀ (K : Kt PT) (n : Nat) (L : xL) (st : List Value) (S : PT), nx cod_X3_hasVariable cut_X3_hasVariable K (n + 1) 8 L st S = (O_zret) (nx cod_X3_hasVariable cut_X3_hasVariable K n) 8 L st S) ∧
  (∀ (K : Kt PT) (n : Nat) (L : xL) (st : List Value) (S : PT), nx cod_X3_hasVariable cut_X3_hasVariable K (n + 1) 100000 L st S = K 100000 L st S) := by
  repeat' apply And.intro
  all_goals (intros; rfl)
set_option maxRecDepth 100000 in
theorem mk_X3_hasVariable {P P' : PT} {r : Option Value}  (body : ∀ E : En, CodOk E pW cod_X3_hasVariable → Gd E pW 100000 [] r.toList P' → Gd E pW 0 [some (.ref 0)] [] P) : Con yX3_hasVariable cX3_hasVariable 1 (some .boolean) 1 pW [.ref 0] P r P' :=
  Con.of (by decide) rfl rfl (Nat.le_of_ble_eq_true rfl) (fun E F G hr => body E (okc_X3_hasVariable F G) hr)
theorem con_X3_hasVariable (S : PT)  : Con yX3_hasVariable cX3_hasVariable 1 (some .boolean) 1 pW [.ref 0] S (some (.int (bI (S.has S.vrb)))) (S) := by
  refine mk_X3_hasVariable (fun E C hr => ?_)
  (refine nx_ok C (cuts := cut_X3_hasVariable) 1000 _ _ _ _ ?_; simp only [w_X3_hasVariable, ops_eq, xst_eq, call_eq, oK_eq, Option.toList_some, Option.toList_none, List.cons_append, List.nil_append, List.length_cons, List.length_nil, true_and, and_true, Nat.reduceAdd, pW_F, pW_A, pW_S, pW_P, PT_gs, se_X3_has, bI_eq])
  ((repeat' (with_reducible first | apply And.intro | intro _)) <;> simp_all [PT_gs])
def sp_X3_hasVariable : Sp PT := fun av S K => match av with
  | [.ref 0] => K (some (.int (bI (S.has S.vrb)))) (S)
  | _ => False
theorem se_X3_hasVariable  (S : PT) (K : Option Value → PT → Prop) : sp_X3_hasVariable [.ref 0] S K = (K (some (.int (bI (S.has S.vrb)))) (S)) := rfl
theorem spok_X3_hasVariable : SpOk yX3_hasVariable cX3_hasVariable 1 (some .boolean) 1 pW sp_X3_hasVariable := by
  intro av S K h
  unfold sp_X3_hasVariable at h
  split at h
  · exact ⟨some (.int (bI (S.has S.vrb))), S, trivial, con_X3_hasVariable S , h⟩
  · exact h.elim
def cod_X3_runs : List (Nat × Op PT) := [(0, O_aload 0 1), (1, O_iload 1 1), (2, O_callV 1 0 (fun S => S) (fun _ S' => S') sp_X3_has), (5, O_if_eq 21), (8, O_aload 0 1), (9, O_getf pW 3 4), (12, O_iload 1 1), (13, O_ald pW 0), (14, O_if_le 21), (17, O_int 1 1), (18, O_goto 22), (21, O_int 0 1), (22, O_zret)]
abbrev cut_X3_runs : List Nat := []
set_option maxRecDepth 100000 in
theorem okc_X3_runs {E : En} (F : Fx E RX3 cX3_runs 2 1) (G : Fr E (some .boolean)) : CodOk E pW cod_X3_runs := by
  unfold CodOk cod_X3_runs
  refine List.forall_mem_cons.mpr ⟨ok_aload_n F dX3_runs_0 rfl (by decide), ?_⟩
  refine List.forall_mem_cons.mpr ⟨ok_iload_n F dX3_runs_1 rfl (by decide), ?_⟩
  refine List.forall_mem_cons.mpr ⟨ok_callV F spok_X3_has (ln_id pW) rcv_pW (by decide +kernel) (by decide) dX3_runs_2 (by decide), ?_⟩
  refine List.forall_mem_cons.mpr ⟨ok_if_eq F dX3_runs_5 (by decide) (by decide) (by decide), ?_⟩
  refine List.forall_mem_cons.mpr ⟨ok_aload_n F dX3_runs_8 rfl (by decide), ?_⟩
  refine List.forall_mem_cons.mpr ⟨ok_getf F flX3_25 dX3_runs_9 (by decide), ?_⟩
  refine List.forall_mem_cons.mpr ⟨ok_iload_n F dX3_runs_12 rfl (by decide), ?_⟩
  refine List.forall_mem_cons.mpr ⟨ok_iald F dX3_runs_13 (by decide), ?_⟩
  refine List.forall_mem_cons.mpr ⟨ok_if_le F dX3_runs_14 (by decide) (by decide) (by decide), ?_⟩
  refine List.forall_mem_cons.mpr ⟨ok_iconst F dX3_runs_17 (by decide) (by decide), ?_⟩
  refine List.forall_mem_cons.mpr ⟨ok_goto F dX3_runs_18 (by decide) (by decide) (by decide), ?_⟩
  refine List.forall_mem_cons.mpr ⟨ok_iconst F dX3_runs_21 (by decide) (by decide), ?_⟩
  refine List.forall_mem_cons.mpr ⟨ok_zret F G dX3_runs_22 (by decide), ?_⟩
  exact fun _ h => absurd h List.not_mem_nil
set_option maxRecDepth 100000 in
theorem w_X3_runs : (∀ (K : Kt PT) (n : Nat) (L : xL) (st : List Value) (S : PT), nx cod_X3_runs cut_X3_runs K (n + 1) 0 L st S = (O_aload 0 1) (nx cod_X3_runs cut_X3_runs K n) 0 L st S) ∧
  (∀ (K : Kt PT) (n : Nat) (L : xL) (st : List Value) (S : PT), nx cod_X3_runs cut_X3_runs K (n + 1) 1 L st S = (O_iload 1 1) (nx cod_X3_runs cut_X3_runs K n) 1 L st S) ∧
  (∀ (K : Kt PT) (n : Nat) (L : xL) (st : List Value) (S : PT), nx cod_X3_runs cut_X3_runs K (n + 1) 2 L st S = (O_callV 1 0 (fun S => S) (fun _ S' => S') sp_X3_has) (nx cod_X3_runs cut_X3_runs K n) 2 L st S) ∧
  (∀ (K : Kt PT) (n : Nat) (L : xL) (st : List Value) (S : PT), nx cod_X3_runs cut_X3_runs K (n + 1) 5 L st S = (O_if_eq 21) (nx cod_X3_runs cut_X3_runs K n) 5 L st S) ∧
  (∀ (K : Kt PT) (n : Nat) (L : xL) (st : List Value) (S : PT), nx cod_X3_runs cut_X3_runs K (n + 1) 8 L st S = (O_aload 0 1) (nx cod_X3_runs cut_X3_runs K n) 8 L st S) ∧
  (∀ (K : Kt PT) (n : Nat) (L : xL) (st : List Value) (S : PT), nx cod_X3_runs cut_X3_runs K (n + 1) 9 L st S = (O_getf pW 3 4) (nx cod_X3_runs cut_X3_runs K n) 9 L st S) ∧
  (∀ (K : Kt PT) (n : Nat) (L : xL) (st : List Value) (S : PT), nx cod_X3_runs cut_X3_runs K (n + 1) 12 L st S = (O_iload 1 1) (nx cod_X3_runs cut_X3_runs K n) 12 L st S) ∧
  (∀ (K : Kt PT) (n : Nat) (L : xL) (st : List Value) (S : PT), nx cod_X3_runs cut_X3_runs K (n + 1) 13 L st S = (O_ald pW 0) (nx cod_X3_runs cut_X3_runs K n) 13 L st S) ∧
  (∀ (K : Kt PT) (n : Nat) (L : xL) (st : List Value) (S : PT), nx cod_X3_runs cut_X3_runs K (n + 1) 14 L st S = (O_if_le 21) (nx cod_X3_runs cut_X3_runs K n) 14 L st S) ∧
  (∀ (K : Kt PT) (n : Nat) (L : xL) (st : List Value) (S : PT), nx cod_X3_runs cut_X3_runs K (n + 1) 17 L st S = (O_int 1 1) (nx cod_X3_runs cut_X3_runs K n) 17 L st S) ∧
  (∀ (K : Kt PT) (n : Nat) (L : xL) (st : List Value) (S : PT), nx cod_X3_runs cut_X3_runs K (n + 1) 18 L st S = (O_goto 22) (nx cod_X3_runs cut_X3_runs K n) 18 L st S) ∧
  (∀ (K : Kt PT) (n : Nat) (L : xL) (st : List Value) (S : PT), nx cod_X3_runs cut_X3_runs K (n + 1) 21 L st S = (O_int 0 1) (nx cod_X3_runs cut_X3_runs K n) 21 L st S) ∧
  (∀ (K : Kt PT) (n : Nat) (L : xL) (st : List Value) (S : PT), nx cod_X3_runs cut_X3_runs K (n + 1) 22 L st S = (O_zret) (nx cod_X3_runs cut_X3_runs K n) 22 L st S) ∧
  (∀ (K : Kt PT) (n : Nat) (L : xL) (st : List Value) (S : PT), nx cod_X3_runs cut_X3_runs K (n + 1) 100000 L st S = K 100000 L st S) := by
  repeat' apply And.intro
  all_goals (intros; rfl)
set_option maxRecDepth 100000 in
theorem mk_X3_runs {P P' : PT} {r : Option Value} {p0 : Int32} (body : ∀ E : En, CodOk E pW cod_X3_runs → Gd E pW 100000 [] r.toList P' → Gd E pW 0 [some (.ref 0), some (.int p0)] [] P) : Con yX3_runs cX3_runs 2 (some .boolean) 1 pW [.ref 0, .int p0] P r P' :=
  Con.of (by decide) rfl rfl (Nat.le_of_ble_eq_true rfl) (fun E F G hr => body E (okc_X3_runs F G) hr)
theorem con_X3_runs (S : PT) (p : Int32) (hp : S.ok) : Con yX3_runs cX3_runs 2 (some .boolean) 1 pW [.ref 0, .int p] S (some (.int (bI (S.runs p)))) (S) := by
  refine mk_X3_runs (fun E C hr => ?_)
  have hv := PT.has_in (p := p) hp
  (refine nx_ok C (cuts := cut_X3_runs) 1000 _ _ _ _ ?_; simp only [w_X3_runs, ops_eq, xst_eq, call_eq, oK_eq, Option.toList_some, Option.toList_none, List.cons_append, List.nil_append, List.length_cons, List.length_nil, true_and, and_true, Nat.reduceAdd, pW_F, pW_A, pW_S, pW_P, PT_gs, se_X3_has, bI_eq])
  ((repeat' (with_reducible first | apply And.intro | intro _)) <;> simp_all [PT.runs, PT.run, bI, PT_gs])
def sp_X3_runs : Sp PT := fun av S K => match av with
  | [.ref 0, .int p] => (S.ok) ∧ K (some (.int (bI (S.runs p)))) (S)
  | _ => False
theorem se_X3_runs (p : Int32) (S : PT) (K : Option Value → PT → Prop) : sp_X3_runs [.ref 0, .int p] S K = ((S.ok) ∧ K (some (.int (bI (S.runs p)))) (S)) := rfl
theorem spok_X3_runs : SpOk yX3_runs cX3_runs 2 (some .boolean) 1 pW sp_X3_runs := by
  intro av S K h
  unfold sp_X3_runs at h
  split at h
  · rename_i p; exact ⟨some (.int (bI (S.runs p))), S, trivial, con_X3_runs S p h.1, h.2⟩
  · exact h.elim
def cod_X3_variableAt : List (Nat × Op PT) := [(0, O_aload 0 1), (1, O_aload 0 1), (2, O_getf pW 3 9), (5, O_callV 1 0 (fun S => S) (fun _ S' => S') sp_X3_has), (8, O_if_eq 28), (11, O_aload 0 1), (12, O_getf pW 3 4), (15, O_aload 0 1), (16, O_getf pW 3 9), (19, O_ald pW 0), (20, O_iload 1 1), (21, O_icmp_ne 28), (24, O_int 1 1), (25, O_goto 29), (28, O_int 0 1), (29, O_zret)]
abbrev cut_X3_variableAt : List Nat := []
set_option maxRecDepth 100000 in
theorem okc_X3_variableAt {E : En} (F : Fx E RX3 cX3_variableAt 2 1) (G : Fr E (some .boolean)) : CodOk E pW cod_X3_variableAt := by
  unfold CodOk cod_X3_variableAt
  refine List.forall_mem_cons.mpr ⟨ok_aload_n F dX3_variableAt_0 rfl (by decide), ?_⟩
  refine List.forall_mem_cons.mpr ⟨ok_aload_n F dX3_variableAt_1 rfl (by decide), ?_⟩
  refine List.forall_mem_cons.mpr ⟨ok_getf F flX3_37 dX3_variableAt_2 (by decide), ?_⟩
  refine List.forall_mem_cons.mpr ⟨ok_callV F spok_X3_has (ln_id pW) rcv_pW (by decide +kernel) (by decide) dX3_variableAt_5 (by decide), ?_⟩
  refine List.forall_mem_cons.mpr ⟨ok_if_eq F dX3_variableAt_8 (by decide) (by decide) (by decide), ?_⟩
  refine List.forall_mem_cons.mpr ⟨ok_aload_n F dX3_variableAt_11 rfl (by decide), ?_⟩
  refine List.forall_mem_cons.mpr ⟨ok_getf F flX3_25 dX3_variableAt_12 (by decide), ?_⟩
  refine List.forall_mem_cons.mpr ⟨ok_aload_n F dX3_variableAt_15 rfl (by decide), ?_⟩
  refine List.forall_mem_cons.mpr ⟨ok_getf F flX3_37 dX3_variableAt_16 (by decide), ?_⟩
  refine List.forall_mem_cons.mpr ⟨ok_iald F dX3_variableAt_19 (by decide), ?_⟩
  refine List.forall_mem_cons.mpr ⟨ok_iload_n F dX3_variableAt_20 rfl (by decide), ?_⟩
  refine List.forall_mem_cons.mpr ⟨ok_icmp_ne F dX3_variableAt_21 (by decide) (by decide) (by decide), ?_⟩
  refine List.forall_mem_cons.mpr ⟨ok_iconst F dX3_variableAt_24 (by decide) (by decide), ?_⟩
  refine List.forall_mem_cons.mpr ⟨ok_goto F dX3_variableAt_25 (by decide) (by decide) (by decide), ?_⟩
  refine List.forall_mem_cons.mpr ⟨ok_iconst F dX3_variableAt_28 (by decide) (by decide), ?_⟩
  refine List.forall_mem_cons.mpr ⟨ok_zret F G dX3_variableAt_29 (by decide), ?_⟩
  exact fun _ h => absurd h List.not_mem_nil
set_option maxRecDepth 100000 in
theorem w_X3_variableAt : (∀ (K : Kt PT) (n : Nat) (L : xL) (st : List Value) (S : PT), nx cod_X3_variableAt cut_X3_variableAt K (n + 1) 0 L st S = (O_aload 0 1) (nx cod_X3_variableAt cut_X3_variableAt K n) 0 L st S) ∧
  (∀ (K : Kt PT) (n : Nat) (L : xL) (st : List Value) (S : PT), nx cod_X3_variableAt cut_X3_variableAt K (n + 1) 1 L st S = (O_aload 0 1) (nx cod_X3_variableAt cut_X3_variableAt K n) 1 L st S) ∧
  (∀ (K : Kt PT) (n : Nat) (L : xL) (st : List Value) (S : PT), nx cod_X3_variableAt cut_X3_variableAt K (n + 1) 2 L st S = (O_getf pW 3 9) (nx cod_X3_variableAt cut_X3_variableAt K n) 2 L st S) ∧
  (∀ (K : Kt PT) (n : Nat) (L : xL) (st : List Value) (S : PT), nx cod_X3_variableAt cut_X3_variableAt K (n + 1) 5 L st S = (O_callV 1 0 (fun S => S) (fun _ S' => S') sp_X3_has) (nx cod_X3_variableAt cut_X3_variableAt K n) 5 L st S) ∧
  (∀ (K : Kt PT) (n : Nat) (L : xL) (st : List Value) (S : PT), nx cod_X3_variableAt cut_X3_variableAt K (n + 1) 8 L st S = (O_if_eq 28) (nx cod_X3_variableAt cut_X3_variableAt K n) 8 L st S) ∧
  (∀ (K : Kt PT) (n : Nat) (L : xL) (st : List Value) (S : PT), nx cod_X3_variableAt cut_X3_variableAt K (n + 1) 11 L st S = (O_aload 0 1) (nx cod_X3_variableAt cut_X3_variableAt K n) 11 L st S) ∧
  (∀ (K : Kt PT) (n : Nat) (L : xL) (st : List Value) (S : PT), nx cod_X3_variableAt cut_X3_variableAt K (n + 1) 12 L st S = (O_getf pW 3 4) (nx cod_X3_variableAt cut_X3_variableAt K n) 12 L st S) ∧
  (∀ (K : Kt PT) (n : Nat) (L : xL) (st : List Value) (S : PT), nx cod_X3_variableAt cut_X3_variableAt K (n + 1) 15 L st S = (O_aload 0 1) (nx cod_X3_variableAt cut_X3_variableAt K n) 15 L st S) ∧
  (∀ (K : Kt PT) (n : Nat) (L : xL) (st : List Value) (S : PT), nx cod_X3_variableAt cut_X3_variableAt K (n + 1) 16 L st S = (O_getf pW 3 9) (nx cod_X3_variableAt cut_X3_variableAt K n) 16 L st S) ∧
  (∀ (K : Kt PT) (n : Nat) (L : xL) (st : List Value) (S : PT), nx cod_X3_variableAt cut_X3_variableAt K (n + 1) 19 L st S = (O_ald pW 0) (nx cod_X3_variableAt cut_X3_variableAt K n) 19 L st S) ∧
  (∀ (K : Kt PT) (n : Nat) (L : xL) (st : List Value) (S : PT), nx cod_X3_variableAt cut_X3_variableAt K (n + 1) 20 L st S = (O_iload 1 1) (nx cod_X3_variableAt cut_X3_variableAt K n) 20 L st S) ∧
  (∀ (K : Kt PT) (n : Nat) (L : xL) (st : List Value) (S : PT), nx cod_X3_variableAt cut_X3_variableAt K (n + 1) 21 L st S = (O_icmp_ne 28) (nx cod_X3_variableAt cut_X3_variableAt K n) 21 L st S) ∧
  (∀ (K : Kt PT) (n : Nat) (L : xL) (st : List Value) (S : PT), nx cod_X3_variableAt cut_X3_variableAt K (n + 1) 24 L st S = (O_int 1 1) (nx cod_X3_variableAt cut_X3_variableAt K n) 24 L st S) ∧
  (∀ (K : Kt PT) (n : Nat) (L : xL) (st : List Value) (S : PT), nx cod_X3_variableAt cut_X3_variableAt K (n + 1) 25 L st S = (O_goto 29) (nx cod_X3_variableAt cut_X3_variableAt K n) 25 L st S) ∧
  (∀ (K : Kt PT) (n : Nat) (L : xL) (st : List Value) (S : PT), nx cod_X3_variableAt cut_X3_variableAt K (n + 1) 28 L st S = (O_int 0 1) (nx cod_X3_variableAt cut_X3_variableAt K n) 28 L st S) ∧
  (∀ (K : Kt PT) (n : Nat) (L : xL) (st : List Value) (S : PT), nx cod_X3_variableAt cut_X3_variableAt K (n + 1) 29 L st S = (O_zret) (nx cod_X3_variableAt cut_X3_variableAt K n) 29 L st S) ∧
  (∀ (K : Kt PT) (n : Nat) (L : xL) (st : List Value) (S : PT), nx cod_X3_variableAt cut_X3_variableAt K (n + 1) 100000 L st S = K 100000 L st S) := by
  repeat' apply And.intro
  all_goals (intros; rfl)
set_option maxRecDepth 100000 in
theorem mk_X3_variableAt {P P' : PT} {r : Option Value} {p0 : Int32} (body : ∀ E : En, CodOk E pW cod_X3_variableAt → Gd E pW 100000 [] r.toList P' → Gd E pW 0 [some (.ref 0), some (.int p0)] [] P) : Con yX3_variableAt cX3_variableAt 2 (some .boolean) 1 pW [.ref 0, .int p0] P r P' :=
  Con.of (by decide) rfl rfl (Nat.le_of_ble_eq_true rfl) (fun E F G hr => body E (okc_X3_variableAt F G) hr)
theorem con_X3_variableAt (S : PT) (s : Int32) (hp : S.ok) : Con yX3_variableAt cX3_variableAt 2 (some .boolean) 1 pW [.ref 0, .int s] S (some (.int (bI (S.vAt s)))) (S) := by
  refine mk_X3_variableAt (fun E C hr => ?_)
  have hv := PT.has_in (p := S.vrb) hp
  (refine nx_ok C (cuts := cut_X3_variableAt) 1000 _ _ _ _ ?_; simp only [w_X3_variableAt, ops_eq, xst_eq, call_eq, oK_eq, Option.toList_some, Option.toList_none, List.cons_append, List.nil_append, List.length_cons, List.length_nil, true_and, and_true, Nat.reduceAdd, pW_F, pW_A, pW_S, pW_P, PT_gs, se_X3_has, bI_eq])
  ((repeat' (with_reducible first | apply And.intro | intro _)) <;> simp_all [PT.vAt, bI, PT_gs])
def sp_X3_variableAt : Sp PT := fun av S K => match av with
  | [.ref 0, .int s] => (S.ok) ∧ K (some (.int (bI (S.vAt s)))) (S)
  | _ => False
theorem se_X3_variableAt (s : Int32) (S : PT) (K : Option Value → PT → Prop) : sp_X3_variableAt [.ref 0, .int s] S K = ((S.ok) ∧ K (some (.int (bI (S.vAt s)))) (S)) := rfl
theorem spok_X3_variableAt : SpOk yX3_variableAt cX3_variableAt 2 (some .boolean) 1 pW sp_X3_variableAt := by
  intro av S K h
  unfold sp_X3_variableAt at h
  split at h
  · rename_i s; exact ⟨some (.int (bI (S.vAt s))), S, trivial, con_X3_variableAt S s h.1, h.2⟩
  · exact h.elim
def PT.running (S : PT) : Int32 := it (fun p r => r + bI (S.run p)) 0 S.n
def cod_X3_running : List (Nat × Op PT) := [(0, O_int 0 1), (1, O_istore 1 1), (2, O_int 0 1), (3, O_istore 2 1), (4, O_iload 2 1), (5, O_aload 0 1), (6, O_getf pW 3 8), (9, O_icmp_ge 35), (12, O_iload 1 1), (13, O_aload 0 1), (14, O_getf pW 3 4), (17, O_iload 2 1), (18, O_ald pW 0), (19, O_if_le 26), (22, O_int 1 1), (23, O_goto 27), (26, O_int 0 1), (27, O_iadd), (28, O_istore 1 1), (29, O_iinc 2 1), (32, O_goto 4), (35, O_iload 1 1), (36, O_iret)]
abbrev cut_X3_running : List Nat := [4]
set_option maxRecDepth 100000 in
theorem okc_X3_running {E : En} (F : Fx E RX3 cX3_running 3 0) (G : Fr E (some .int)) : CodOk E pW cod_X3_running := by
  unfold CodOk cod_X3_running
  refine List.forall_mem_cons.mpr ⟨ok_iconst F dX3_running_0 (by decide) (by decide), ?_⟩
  refine List.forall_mem_cons.mpr ⟨ok_istore_n F dX3_running_1 rfl (by decide) (by decide), ?_⟩
  refine List.forall_mem_cons.mpr ⟨ok_iconst F dX3_running_2 (by decide) (by decide), ?_⟩
  refine List.forall_mem_cons.mpr ⟨ok_istore_n F dX3_running_3 rfl (by decide) (by decide), ?_⟩
  refine List.forall_mem_cons.mpr ⟨ok_iload_n F dX3_running_4 rfl (by decide), ?_⟩
  refine List.forall_mem_cons.mpr ⟨ok_aload_n F dX3_running_5 rfl (by decide), ?_⟩
  refine List.forall_mem_cons.mpr ⟨ok_getf F flX3_47 dX3_running_6 (by decide), ?_⟩
  refine List.forall_mem_cons.mpr ⟨ok_icmp_ge F dX3_running_9 (by decide) (by decide) (by decide), ?_⟩
  refine List.forall_mem_cons.mpr ⟨ok_iload_n F dX3_running_12 rfl (by decide), ?_⟩
  refine List.forall_mem_cons.mpr ⟨ok_aload_n F dX3_running_13 rfl (by decide), ?_⟩
  refine List.forall_mem_cons.mpr ⟨ok_getf F flX3_25 dX3_running_14 (by decide), ?_⟩
  refine List.forall_mem_cons.mpr ⟨ok_iload_n F dX3_running_17 rfl (by decide), ?_⟩
  refine List.forall_mem_cons.mpr ⟨ok_iald F dX3_running_18 (by decide), ?_⟩
  refine List.forall_mem_cons.mpr ⟨ok_if_le F dX3_running_19 (by decide) (by decide) (by decide), ?_⟩
  refine List.forall_mem_cons.mpr ⟨ok_iconst F dX3_running_22 (by decide) (by decide), ?_⟩
  refine List.forall_mem_cons.mpr ⟨ok_goto F dX3_running_23 (by decide) (by decide) (by decide), ?_⟩
  refine List.forall_mem_cons.mpr ⟨ok_iconst F dX3_running_26 (by decide) (by decide), ?_⟩
  refine List.forall_mem_cons.mpr ⟨ok_iadd F dX3_running_27 (by decide), ?_⟩
  refine List.forall_mem_cons.mpr ⟨ok_istore_n F dX3_running_28 rfl (by decide) (by decide), ?_⟩
  refine List.forall_mem_cons.mpr ⟨ok_iinc F dX3_running_29 (by decide) (by decide) (by decide), ?_⟩
  refine List.forall_mem_cons.mpr ⟨ok_goto F dX3_running_32 (by decide) (by decide) (by decide), ?_⟩
  refine List.forall_mem_cons.mpr ⟨ok_iload_n F dX3_running_35 rfl (by decide), ?_⟩
  refine List.forall_mem_cons.mpr ⟨ok_iret F G dX3_running_36 (by decide), ?_⟩
  exact fun _ h => absurd h List.not_mem_nil
set_option maxRecDepth 100000 in
theorem w_X3_running : (∀ (K : Kt PT) (n : Nat) (L : xL) (st : List Value) (S : PT), nx cod_X3_running cut_X3_running K (n + 1) 0 L st S = (O_int 0 1) (nx cod_X3_running cut_X3_running K n) 0 L st S) ∧
  (∀ (K : Kt PT) (n : Nat) (L : xL) (st : List Value) (S : PT), nx cod_X3_running cut_X3_running K (n + 1) 1 L st S = (O_istore 1 1) (nx cod_X3_running cut_X3_running K n) 1 L st S) ∧
  (∀ (K : Kt PT) (n : Nat) (L : xL) (st : List Value) (S : PT), nx cod_X3_running cut_X3_running K (n + 1) 2 L st S = (O_int 0 1) (nx cod_X3_running cut_X3_running K n) 2 L st S) ∧
  (∀ (K : Kt PT) (n : Nat) (L : xL) (st : List Value) (S : PT), nx cod_X3_running cut_X3_running K (n + 1) 3 L st S = (O_istore 2 1) (nx cod_X3_running cut_X3_running K n) 3 L st S) ∧
  (∀ (K : Kt PT) (n : Nat) (L : xL) (st : List Value) (S : PT), nx cod_X3_running cut_X3_running K (n + 1) 4 L st S = K 4 L st S) ∧
  (∀ (K : Kt PT) (n : Nat) (L : xL) (st : List Value) (S : PT), nx1 cod_X3_running cut_X3_running K n 4 L st S = (O_iload 2 1) (nx cod_X3_running cut_X3_running K n) 4 L st S) ∧
  (∀ (K : Kt PT) (n : Nat) (L : xL) (st : List Value) (S : PT), nx cod_X3_running cut_X3_running K (n + 1) 5 L st S = (O_aload 0 1) (nx cod_X3_running cut_X3_running K n) 5 L st S) ∧
  (∀ (K : Kt PT) (n : Nat) (L : xL) (st : List Value) (S : PT), nx cod_X3_running cut_X3_running K (n + 1) 6 L st S = (O_getf pW 3 8) (nx cod_X3_running cut_X3_running K n) 6 L st S) ∧
  (∀ (K : Kt PT) (n : Nat) (L : xL) (st : List Value) (S : PT), nx cod_X3_running cut_X3_running K (n + 1) 9 L st S = (O_icmp_ge 35) (nx cod_X3_running cut_X3_running K n) 9 L st S) ∧
  (∀ (K : Kt PT) (n : Nat) (L : xL) (st : List Value) (S : PT), nx cod_X3_running cut_X3_running K (n + 1) 12 L st S = (O_iload 1 1) (nx cod_X3_running cut_X3_running K n) 12 L st S) ∧
  (∀ (K : Kt PT) (n : Nat) (L : xL) (st : List Value) (S : PT), nx cod_X3_running cut_X3_running K (n + 1) 13 L st S = (O_aload 0 1) (nx cod_X3_running cut_X3_running K n) 13 L st S) ∧
  (∀ (K : Kt PT) (n : Nat) (L : xL) (st : List Value) (S : PT), nx cod_X3_running cut_X3_running K (n + 1) 14 L st S = (O_getf pW 3 4) (nx cod_X3_running cut_X3_running K n) 14 L st S) ∧
  (∀ (K : Kt PT) (n : Nat) (L : xL) (st : List Value) (S : PT), nx cod_X3_running cut_X3_running K (n + 1) 17 L st S = (O_iload 2 1) (nx cod_X3_running cut_X3_running K n) 17 L st S) ∧
  (∀ (K : Kt PT) (n : Nat) (L : xL) (st : List Value) (S : PT), nx cod_X3_running cut_X3_running K (n + 1) 18 L st S = (O_ald pW 0) (nx cod_X3_running cut_X3_running K n) 18 L st S) ∧
  (∀ (K : Kt PT) (n : Nat) (L : xL) (st : List Value) (S : PT), nx cod_X3_running cut_X3_running K (n + 1) 19 L st S = (O_if_le 26) (nx cod_X3_running cut_X3_running K n) 19 L st S) ∧
  (∀ (K : Kt PT) (n : Nat) (L : xL) (st : List Value) (S : PT), nx cod_X3_running cut_X3_running K (n + 1) 22 L st S = (O_int 1 1) (nx cod_X3_running cut_X3_running K n) 22 L st S) ∧
  (∀ (K : Kt PT) (n : Nat) (L : xL) (st : List Value) (S : PT), nx cod_X3_running cut_X3_running K (n + 1) 23 L st S = (O_goto 27) (nx cod_X3_running cut_X3_running K n) 23 L st S) ∧
  (∀ (K : Kt PT) (n : Nat) (L : xL) (st : List Value) (S : PT), nx cod_X3_running cut_X3_running K (n + 1) 26 L st S = (O_int 0 1) (nx cod_X3_running cut_X3_running K n) 26 L st S) ∧
  (∀ (K : Kt PT) (n : Nat) (L : xL) (st : List Value) (S : PT), nx cod_X3_running cut_X3_running K (n + 1) 27 L st S = (O_iadd) (nx cod_X3_running cut_X3_running K n) 27 L st S) ∧
  (∀ (K : Kt PT) (n : Nat) (L : xL) (st : List Value) (S : PT), nx cod_X3_running cut_X3_running K (n + 1) 28 L st S = (O_istore 1 1) (nx cod_X3_running cut_X3_running K n) 28 L st S) ∧
  (∀ (K : Kt PT) (n : Nat) (L : xL) (st : List Value) (S : PT), nx cod_X3_running cut_X3_running K (n + 1) 29 L st S = (O_iinc 2 1) (nx cod_X3_running cut_X3_running K n) 29 L st S) ∧
  (∀ (K : Kt PT) (n : Nat) (L : xL) (st : List Value) (S : PT), nx cod_X3_running cut_X3_running K (n + 1) 32 L st S = (O_goto 4) (nx cod_X3_running cut_X3_running K n) 32 L st S) ∧
  (∀ (K : Kt PT) (n : Nat) (L : xL) (st : List Value) (S : PT), nx cod_X3_running cut_X3_running K (n + 1) 35 L st S = (O_iload 1 1) (nx cod_X3_running cut_X3_running K n) 35 L st S) ∧
  (∀ (K : Kt PT) (n : Nat) (L : xL) (st : List Value) (S : PT), nx cod_X3_running cut_X3_running K (n + 1) 36 L st S = (O_iret) (nx cod_X3_running cut_X3_running K n) 36 L st S) ∧
  (∀ (K : Kt PT) (n : Nat) (L : xL) (st : List Value) (S : PT), nx cod_X3_running cut_X3_running K (n + 1) 100000 L st S = K 100000 L st S) := by
  repeat' apply And.intro
  all_goals (intros; rfl)
set_option maxRecDepth 100000 in
theorem mk_X3_running {P P' : PT} {r : Option Value}  (body : ∀ E : En, CodOk E pW cod_X3_running → Gd E pW 100000 [] r.toList P' → Gd E pW 0 [some (.ref 0), none, none] [] P) : Con yX3_running cX3_running 3 (some .int) 0 pW [.ref 0] P r P' :=
  Con.of (by decide) rfl rfl (Nat.le_of_ble_eq_true rfl) (fun E F G hr => body E (okc_X3_running F G) hr)
theorem con_X3_running (S : PT)  (hp : S.ok) : Con yX3_running cX3_running 3 (some .int) 0 pW [.ref 0] S (some (.int (S.running))) (S) := by
  refine mk_X3_running (fun E C hr => ?_)
  (refine nx_ok C (cuts := cut_X3_running) 1000 _ _ _ _ ?_; simp only [w_X3_running, ops_eq, xst_eq, call_eq, oK_eq, Option.toList_some, Option.toList_none, List.cons_append, List.nil_append, List.length_cons, List.length_nil, true_and, and_true, Nat.reduceAdd, pW_F, pW_A, pW_S, pW_P, PT_gs])
  refine it_up (f := fun p r => r + bI (S.run p)) (n := S.n) (fun _ _ => True) (fun i r => Gd E pW 4 [some (.ref 0), some (.int r), some (.int (nI i))] [] S) trivial (fun _ _ _ _ => trivial) (fun i r hi _ hn => ?_) ?_
  · have hx := ixs hp hi
    (refine nx1_ok C cut_X3_running 1000 ?_; simp only [w_X3_running, ops_eq, xst_eq, call_eq, oK_eq, Option.toList_some, Option.toList_none, List.cons_append, List.nil_append, List.length_cons, List.length_nil, true_and, and_true, Nat.reduceAdd, pW_F, pW_A, pW_S, pW_P, PT_gs, hx])
    ((repeat' (with_reducible first | apply And.intro | intro _)) <;> simp_all [PT.run, bI, PT_gs])
  · have hx := ixe hp
    (refine nx1_ok C cut_X3_running 1000 ?_; simp only [w_X3_running, ops_eq, xst_eq, call_eq, oK_eq, Option.toList_some, Option.toList_none, List.cons_append, List.nil_append, List.length_cons, List.length_nil, true_and, and_true, Nat.reduceAdd, pW_F, pW_A, pW_S, pW_P, PT_gs, hx])
    ((repeat' (with_reducible first | apply And.intro | intro _)) <;> simp_all [PT.running, PT_gs])
def sp_X3_running : Sp PT := fun av S K => match av with
  | [.ref 0] => (S.ok) ∧ K (some (.int (S.running))) (S)
  | _ => False
theorem se_X3_running  (S : PT) (K : Option Value → PT → Prop) : sp_X3_running [.ref 0] S K = ((S.ok) ∧ K (some (.int (S.running))) (S)) := rfl
theorem spok_X3_running : SpOk yX3_running cX3_running 3 (some .int) 0 pW sp_X3_running := by
  intro av S K h
  unfold sp_X3_running at h
  split at h
  · exact ⟨some (.int (S.running)), S, trivial, con_X3_running S  h.1, h.2⟩
  · exact h.elim
def PT.readyOnes (S : PT) : Int32 := it (fun p r => r + bI (S.rdy p)) 0 S.n
def cod_X3_readyOnes : List (Nat × Op PT) := [(0, O_int 0 1), (1, O_istore 1 1), (2, O_int 0 1), (3, O_istore 2 1), (4, O_iload 2 1), (5, O_aload 0 1), (6, O_getf pW 3 8), (9, O_icmp_ge 34), (12, O_iload 1 1), (13, O_aload 0 1), (14, O_iload 2 1), (15, O_callV 1 0 (fun S => S) (fun _ S' => S') sp_X3_isReady), (18, O_if_eq 25), (21, O_int 1 1), (22, O_goto 26), (25, O_int 0 1), (26, O_iadd), (27, O_istore 1 1), (28, O_iinc 2 1), (31, O_goto 4), (34, O_iload 1 1), (35, O_iret)]
abbrev cut_X3_readyOnes : List Nat := [4]
set_option maxRecDepth 100000 in
theorem okc_X3_readyOnes {E : En} (F : Fx E RX3 cX3_readyOnes 3 1) (G : Fr E (some .int)) : CodOk E pW cod_X3_readyOnes := by
  unfold CodOk cod_X3_readyOnes
  refine List.forall_mem_cons.mpr ⟨ok_iconst F dX3_readyOnes_0 (by decide) (by decide), ?_⟩
  refine List.forall_mem_cons.mpr ⟨ok_istore_n F dX3_readyOnes_1 rfl (by decide) (by decide), ?_⟩
  refine List.forall_mem_cons.mpr ⟨ok_iconst F dX3_readyOnes_2 (by decide) (by decide), ?_⟩
  refine List.forall_mem_cons.mpr ⟨ok_istore_n F dX3_readyOnes_3 rfl (by decide) (by decide), ?_⟩
  refine List.forall_mem_cons.mpr ⟨ok_iload_n F dX3_readyOnes_4 rfl (by decide), ?_⟩
  refine List.forall_mem_cons.mpr ⟨ok_aload_n F dX3_readyOnes_5 rfl (by decide), ?_⟩
  refine List.forall_mem_cons.mpr ⟨ok_getf F flX3_47 dX3_readyOnes_6 (by decide), ?_⟩
  refine List.forall_mem_cons.mpr ⟨ok_icmp_ge F dX3_readyOnes_9 (by decide) (by decide) (by decide), ?_⟩
  refine List.forall_mem_cons.mpr ⟨ok_iload_n F dX3_readyOnes_12 rfl (by decide), ?_⟩
  refine List.forall_mem_cons.mpr ⟨ok_aload_n F dX3_readyOnes_13 rfl (by decide), ?_⟩
  refine List.forall_mem_cons.mpr ⟨ok_iload_n F dX3_readyOnes_14 rfl (by decide), ?_⟩
  refine List.forall_mem_cons.mpr ⟨ok_callV F spok_X3_isReady (ln_id pW) rcv_pW (by decide +kernel) (by decide) dX3_readyOnes_15 (by decide), ?_⟩
  refine List.forall_mem_cons.mpr ⟨ok_if_eq F dX3_readyOnes_18 (by decide) (by decide) (by decide), ?_⟩
  refine List.forall_mem_cons.mpr ⟨ok_iconst F dX3_readyOnes_21 (by decide) (by decide), ?_⟩
  refine List.forall_mem_cons.mpr ⟨ok_goto F dX3_readyOnes_22 (by decide) (by decide) (by decide), ?_⟩
  refine List.forall_mem_cons.mpr ⟨ok_iconst F dX3_readyOnes_25 (by decide) (by decide), ?_⟩
  refine List.forall_mem_cons.mpr ⟨ok_iadd F dX3_readyOnes_26 (by decide), ?_⟩
  refine List.forall_mem_cons.mpr ⟨ok_istore_n F dX3_readyOnes_27 rfl (by decide) (by decide), ?_⟩
  refine List.forall_mem_cons.mpr ⟨ok_iinc F dX3_readyOnes_28 (by decide) (by decide) (by decide), ?_⟩
  refine List.forall_mem_cons.mpr ⟨ok_goto F dX3_readyOnes_31 (by decide) (by decide) (by decide), ?_⟩
  refine List.forall_mem_cons.mpr ⟨ok_iload_n F dX3_readyOnes_34 rfl (by decide), ?_⟩
  refine List.forall_mem_cons.mpr ⟨ok_iret F G dX3_readyOnes_35 (by decide), ?_⟩
  exact fun _ h => absurd h List.not_mem_nil
set_option maxRecDepth 100000 in
theorem w_X3_readyOnes : (∀ (K : Kt PT) (n : Nat) (L : xL) (st : List Value) (S : PT), nx cod_X3_readyOnes cut_X3_readyOnes K (n + 1) 0 L st S = (O_int 0 1) (nx cod_X3_readyOnes cut_X3_readyOnes K n) 0 L st S) ∧
  (∀ (K : Kt PT) (n : Nat) (L : xL) (st : List Value) (S : PT), nx cod_X3_readyOnes cut_X3_readyOnes K (n + 1) 1 L st S = (O_istore 1 1) (nx cod_X3_readyOnes cut_X3_readyOnes K n) 1 L st S) ∧
  (∀ (K : Kt PT) (n : Nat) (L : xL) (st : List Value) (S : PT), nx cod_X3_readyOnes cut_X3_readyOnes K (n + 1) 2 L st S = (O_int 0 1) (nx cod_X3_readyOnes cut_X3_readyOnes K n) 2 L st S) ∧
  (∀ (K : Kt PT) (n : Nat) (L : xL) (st : List Value) (S : PT), nx cod_X3_readyOnes cut_X3_readyOnes K (n + 1) 3 L st S = (O_istore 2 1) (nx cod_X3_readyOnes cut_X3_readyOnes K n) 3 L st S) ∧
  (∀ (K : Kt PT) (n : Nat) (L : xL) (st : List Value) (S : PT), nx cod_X3_readyOnes cut_X3_readyOnes K (n + 1) 4 L st S = K 4 L st S) ∧
  (∀ (K : Kt PT) (n : Nat) (L : xL) (st : List Value) (S : PT), nx1 cod_X3_readyOnes cut_X3_readyOnes K n 4 L st S = (O_iload 2 1) (nx cod_X3_readyOnes cut_X3_readyOnes K n) 4 L st S) ∧
  (∀ (K : Kt PT) (n : Nat) (L : xL) (st : List Value) (S : PT), nx cod_X3_readyOnes cut_X3_readyOnes K (n + 1) 5 L st S = (O_aload 0 1) (nx cod_X3_readyOnes cut_X3_readyOnes K n) 5 L st S) ∧
  (∀ (K : Kt PT) (n : Nat) (L : xL) (st : List Value) (S : PT), nx cod_X3_readyOnes cut_X3_readyOnes K (n + 1) 6 L st S = (O_getf pW 3 8) (nx cod_X3_readyOnes cut_X3_readyOnes K n) 6 L st S) ∧
  (∀ (K : Kt PT) (n : Nat) (L : xL) (st : List Value) (S : PT), nx cod_X3_readyOnes cut_X3_readyOnes K (n + 1) 9 L st S = (O_icmp_ge 34) (nx cod_X3_readyOnes cut_X3_readyOnes K n) 9 L st S) ∧
  (∀ (K : Kt PT) (n : Nat) (L : xL) (st : List Value) (S : PT), nx cod_X3_readyOnes cut_X3_readyOnes K (n + 1) 12 L st S = (O_iload 1 1) (nx cod_X3_readyOnes cut_X3_readyOnes K n) 12 L st S) ∧
  (∀ (K : Kt PT) (n : Nat) (L : xL) (st : List Value) (S : PT), nx cod_X3_readyOnes cut_X3_readyOnes K (n + 1) 13 L st S = (O_aload 0 1) (nx cod_X3_readyOnes cut_X3_readyOnes K n) 13 L st S) ∧
  (∀ (K : Kt PT) (n : Nat) (L : xL) (st : List Value) (S : PT), nx cod_X3_readyOnes cut_X3_readyOnes K (n + 1) 14 L st S = (O_iload 2 1) (nx cod_X3_readyOnes cut_X3_readyOnes K n) 14 L st S) ∧
  (∀ (K : Kt PT) (n : Nat) (L : xL) (st : List Value) (S : PT), nx cod_X3_readyOnes cut_X3_readyOnes K (n + 1) 15 L st S = (O_callV 1 0 (fun S => S) (fun _ S' => S') sp_X3_isReady) (nx cod_X3_readyOnes cut_X3_readyOnes K n) 15 L st S) ∧
  (∀ (K : Kt PT) (n : Nat) (L : xL) (st : List Value) (S : PT), nx cod_X3_readyOnes cut_X3_readyOnes K (n + 1) 18 L st S = (O_if_eq 25) (nx cod_X3_readyOnes cut_X3_readyOnes K n) 18 L st S) ∧
  (∀ (K : Kt PT) (n : Nat) (L : xL) (st : List Value) (S : PT), nx cod_X3_readyOnes cut_X3_readyOnes K (n + 1) 21 L st S = (O_int 1 1) (nx cod_X3_readyOnes cut_X3_readyOnes K n) 21 L st S) ∧
  (∀ (K : Kt PT) (n : Nat) (L : xL) (st : List Value) (S : PT), nx cod_X3_readyOnes cut_X3_readyOnes K (n + 1) 22 L st S = (O_goto 26) (nx cod_X3_readyOnes cut_X3_readyOnes K n) 22 L st S) ∧
  (∀ (K : Kt PT) (n : Nat) (L : xL) (st : List Value) (S : PT), nx cod_X3_readyOnes cut_X3_readyOnes K (n + 1) 25 L st S = (O_int 0 1) (nx cod_X3_readyOnes cut_X3_readyOnes K n) 25 L st S) ∧
  (∀ (K : Kt PT) (n : Nat) (L : xL) (st : List Value) (S : PT), nx cod_X3_readyOnes cut_X3_readyOnes K (n + 1) 26 L st S = (O_iadd) (nx cod_X3_readyOnes cut_X3_readyOnes K n) 26 L st S) ∧
  (∀ (K : Kt PT) (n : Nat) (L : xL) (st : List Value) (S : PT), nx cod_X3_readyOnes cut_X3_readyOnes K (n + 1) 27 L st S = (O_istore 1 1) (nx cod_X3_readyOnes cut_X3_readyOnes K n) 27 L st S) ∧
  (∀ (K : Kt PT) (n : Nat) (L : xL) (st : List Value) (S : PT), nx cod_X3_readyOnes cut_X3_readyOnes K (n + 1) 28 L st S = (O_iinc 2 1) (nx cod_X3_readyOnes cut_X3_readyOnes K n) 28 L st S) ∧
  (∀ (K : Kt PT) (n : Nat) (L : xL) (st : List Value) (S : PT), nx cod_X3_readyOnes cut_X3_readyOnes K (n + 1) 31 L st S = (O_goto 4) (nx cod_X3_readyOnes cut_X3_readyOnes K n) 31 L st S) ∧
  (∀ (K : Kt PT) (n : Nat) (L : xL) (st : List Value) (S : PT), nx cod_X3_readyOnes cut_X3_readyOnes K (n + 1) 34 L st S = (O_iload 1 1) (nx cod_X3_readyOnes cut_X3_readyOnes K n) 34 L st S) ∧
  (∀ (K : Kt PT) (n : Nat) (L : xL) (st : List Value) (S : PT), nx cod_X3_readyOnes cut_X3_readyOnes K (n + 1) 35 L st S = (O_iret) (nx cod_X3_readyOnes cut_X3_readyOnes K n) 35 L st S) ∧
  (∀ (K : Kt PT) (n : Nat) (L : xL) (st : List Value) (S : PT), nx cod_X3_readyOnes cut_X3_readyOnes K (n + 1) 100000 L st S = K 100000 L st S) := by
  repeat' apply And.intro
  all_goals (intros; rfl)
set_option maxRecDepth 100000 in
theorem mk_X3_readyOnes {P P' : PT} {r : Option Value}  (body : ∀ E : En, CodOk E pW cod_X3_readyOnes → Gd E pW 100000 [] r.toList P' → Gd E pW 0 [some (.ref 0), none, none] [] P) : Con yX3_readyOnes cX3_readyOnes 3 (some .int) 1 pW [.ref 0] P r P' :=
  Con.of (by decide) rfl rfl (Nat.le_of_ble_eq_true rfl) (fun E F G hr => body E (okc_X3_readyOnes F G) hr)
theorem con_X3_readyOnes (S : PT)  (hp : S.ok) : Con yX3_readyOnes cX3_readyOnes 3 (some .int) 1 pW [.ref 0] S (some (.int (S.readyOnes))) (S) := by
  refine mk_X3_readyOnes (fun E C hr => ?_)
  (refine nx_ok C (cuts := cut_X3_readyOnes) 1000 _ _ _ _ ?_; simp only [w_X3_readyOnes, ops_eq, xst_eq, call_eq, oK_eq, Option.toList_some, Option.toList_none, List.cons_append, List.nil_append, List.length_cons, List.length_nil, true_and, and_true, Nat.reduceAdd, pW_F, pW_A, pW_S, pW_P, PT_gs, se_X3_isReady])
  refine it_up (f := fun p r => r + bI (S.rdy p)) (n := S.n) (fun _ _ => True) (fun i r => Gd E pW 4 [some (.ref 0), some (.int r), some (.int (nI i))] [] S) trivial (fun _ _ _ _ => trivial) (fun i r hi _ hn => ?_) ?_
  · have hx := ixs hp hi
    (refine nx1_ok C cut_X3_readyOnes 1000 ?_; simp only [w_X3_readyOnes, ops_eq, xst_eq, call_eq, oK_eq, Option.toList_some, Option.toList_none, List.cons_append, List.nil_append, List.length_cons, List.length_nil, true_and, and_true, Nat.reduceAdd, pW_F, pW_A, pW_S, pW_P, PT_gs, se_X3_isReady, hx])
    ((repeat' (with_reducible first | apply And.intro | intro _)) <;> simp_all [bI, PT_gs])
  · have hx := ixe hp
    (refine nx1_ok C cut_X3_readyOnes 1000 ?_; simp only [w_X3_readyOnes, ops_eq, xst_eq, call_eq, oK_eq, Option.toList_some, Option.toList_none, List.cons_append, List.nil_append, List.length_cons, List.length_nil, true_and, and_true, Nat.reduceAdd, pW_F, pW_A, pW_S, pW_P, PT_gs, se_X3_isReady, hx])
    ((repeat' (with_reducible first | apply And.intro | intro _)) <;> simp_all [PT.readyOnes, PT_gs])
def sp_X3_readyOnes : Sp PT := fun av S K => match av with
  | [.ref 0] => (S.ok) ∧ K (some (.int (S.readyOnes))) (S)
  | _ => False
theorem se_X3_readyOnes  (S : PT) (K : Option Value → PT → Prop) : sp_X3_readyOnes [.ref 0] S K = ((S.ok) ∧ K (some (.int (S.readyOnes))) (S)) := rfl
theorem spok_X3_readyOnes : SpOk yX3_readyOnes cX3_readyOnes 3 (some .int) 1 pW sp_X3_readyOnes := by
  intro av S K h
  unfold sp_X3_readyOnes at h
  split at h
  · exact ⟨some (.int (S.readyOnes)), S, trivial, con_X3_readyOnes S  h.1, h.2⟩
  · exact h.elim

def PT.ahead (S : PT) (a b : Nat) (nr : Int32) : Bool :=
  if decide (S.kinds a = 2) = decide (S.kinds b = 2) then
    (if S.minutes a = S.minutes b then decide (a < b) else decide (S.minutes a < S.minutes b))
  else decide (bI (decide (S.kinds a = 2)) = nr)
theorem flX3_11 : fldOk RX3 11 3 0 = true := by decide +kernel
theorem flX3_28 : fldOk RX3 28 3 5 = true := by decide +kernel
def cod_X3_isAhead : List (Nat × Op PT) := [(0, O_aload 0 1), (1, O_getf pW 3 0), (4, O_iload 1 1), (5, O_ald pW 0), (6, O_int 2 1), (7, O_icmp_ne 14), (10, O_int 1 1), (11, O_goto 15), (14, O_int 0 1), (15, O_istore 4 2), (17, O_iload 4 2), (19, O_aload 0 1), (20, O_getf pW 3 0), (23, O_iload 2 1), (24, O_ald pW 0), (25, O_int 2 1), (26, O_icmp_ne 33), (29, O_int 1 1), (30, O_goto 34), (33, O_int 0 1), (34, O_icmp_eq 49), (37, O_iload 4 2), (39, O_iload 3 1), (40, O_icmp_ne 47), (43, O_int 1 1), (44, O_goto 48), (47, O_int 0 1), (48, O_zret), (49, O_aload 0 1), (50, O_getf pW 3 5), (53, O_iload 1 1), (54, O_ald pW 0), (55, O_aload 0 1), (56, O_getf pW 3 5), (59, O_iload 2 1), (60, O_ald pW 0), (61, O_icmp_eq 85), (64, O_aload 0 1), (65, O_getf pW 3 5), (68, O_iload 1 1), (69, O_ald pW 0), (70, O_aload 0 1), (71, O_getf pW 3 5), (74, O_iload 2 1), (75, O_ald pW 0), (76, O_icmp_ge 83), (79, O_int 1 1), (80, O_goto 84), (83, O_int 0 1), (84, O_zret), (85, O_iload 1 1), (86, O_iload 2 1), (87, O_icmp_ge 94), (90, O_int 1 1), (91, O_goto 95), (94, O_int 0 1), (95, O_zret)]
abbrev cut_X3_isAhead : List Nat := []
set_option maxRecDepth 100000 in
theorem okc_X3_isAhead {E : En} (F : Fx E RX3 cX3_isAhead 5 0) (G : Fr E (some .boolean)) : CodOk E pW cod_X3_isAhead := by
  unfold CodOk cod_X3_isAhead
  refine List.forall_mem_cons.mpr ⟨ok_aload_n F dX3_isAhead_0 rfl (by decide), ?_⟩
  refine List.forall_mem_cons.mpr ⟨ok_getf F flX3_11 dX3_isAhead_1 (by decide), ?_⟩
  refine List.forall_mem_cons.mpr ⟨ok_iload_n F dX3_isAhead_4 rfl (by decide), ?_⟩
  refine List.forall_mem_cons.mpr ⟨ok_iald F dX3_isAhead_5 (by decide), ?_⟩
  refine List.forall_mem_cons.mpr ⟨ok_iconst F dX3_isAhead_6 (by decide) (by decide), ?_⟩
  refine List.forall_mem_cons.mpr ⟨ok_icmp_ne F dX3_isAhead_7 (by decide) (by decide) (by decide), ?_⟩
  refine List.forall_mem_cons.mpr ⟨ok_iconst F dX3_isAhead_10 (by decide) (by decide), ?_⟩
  refine List.forall_mem_cons.mpr ⟨ok_goto F dX3_isAhead_11 (by decide) (by decide) (by decide), ?_⟩
  refine List.forall_mem_cons.mpr ⟨ok_iconst F dX3_isAhead_14 (by decide) (by decide), ?_⟩
  refine List.forall_mem_cons.mpr ⟨ok_istore F dX3_isAhead_15 (by decide) (by decide), ?_⟩
  refine List.forall_mem_cons.mpr ⟨ok_iload F dX3_isAhead_17 (by decide), ?_⟩
  refine List.forall_mem_cons.mpr ⟨ok_aload_n F dX3_isAhead_19 rfl (by decide), ?_⟩
  refine List.forall_mem_cons.mpr ⟨ok_getf F flX3_11 dX3_isAhead_20 (by decide), ?_⟩
  refine List.forall_mem_cons.mpr ⟨ok_iload_n F dX3_isAhead_23 rfl (by decide), ?_⟩
  refine List.forall_mem_cons.mpr ⟨ok_iald F dX3_isAhead_24 (by decide), ?_⟩
  refine List.forall_mem_cons.mpr ⟨ok_iconst F dX3_isAhead_25 (by decide) (by decide), ?_⟩
  refine List.forall_mem_cons.mpr ⟨ok_icmp_ne F dX3_isAhead_26 (by decide) (by decide) (by decide), ?_⟩
  refine List.forall_mem_cons.mpr ⟨ok_iconst F dX3_isAhead_29 (by decide) (by decide), ?_⟩
  refine List.forall_mem_cons.mpr ⟨ok_goto F dX3_isAhead_30 (by decide) (by decide) (by decide), ?_⟩
  refine List.forall_mem_cons.mpr ⟨ok_iconst F dX3_isAhead_33 (by decide) (by decide), ?_⟩
  refine List.forall_mem_cons.mpr ⟨ok_icmp_eq F dX3_isAhead_34 (by decide) (by decide) (by decide), ?_⟩
  refine List.forall_mem_cons.mpr ⟨ok_iload F dX3_isAhead_37 (by decide), ?_⟩
  refine List.forall_mem_cons.mpr ⟨ok_iload_n F dX3_isAhead_39 rfl (by decide), ?_⟩
  refine List.forall_mem_cons.mpr ⟨ok_icmp_ne F dX3_isAhead_40 (by decide) (by decide) (by decide), ?_⟩
  refine List.forall_mem_cons.mpr ⟨ok_iconst F dX3_isAhead_43 (by decide) (by decide), ?_⟩
  refine List.forall_mem_cons.mpr ⟨ok_goto F dX3_isAhead_44 (by decide) (by decide) (by decide), ?_⟩
  refine List.forall_mem_cons.mpr ⟨ok_iconst F dX3_isAhead_47 (by decide) (by decide), ?_⟩
  refine List.forall_mem_cons.mpr ⟨ok_zret F G dX3_isAhead_48 (by decide), ?_⟩
  refine List.forall_mem_cons.mpr ⟨ok_aload_n F dX3_isAhead_49 rfl (by decide), ?_⟩
  refine List.forall_mem_cons.mpr ⟨ok_getf F flX3_28 dX3_isAhead_50 (by decide), ?_⟩
  refine List.forall_mem_cons.mpr ⟨ok_iload_n F dX3_isAhead_53 rfl (by decide), ?_⟩
  refine List.forall_mem_cons.mpr ⟨ok_iald F dX3_isAhead_54 (by decide), ?_⟩
  refine List.forall_mem_cons.mpr ⟨ok_aload_n F dX3_isAhead_55 rfl (by decide), ?_⟩
  refine List.forall_mem_cons.mpr ⟨ok_getf F flX3_28 dX3_isAhead_56 (by decide), ?_⟩
  refine List.forall_mem_cons.mpr ⟨ok_iload_n F dX3_isAhead_59 rfl (by decide), ?_⟩
  refine List.forall_mem_cons.mpr ⟨ok_iald F dX3_isAhead_60 (by decide), ?_⟩
  refine List.forall_mem_cons.mpr ⟨ok_icmp_eq F dX3_isAhead_61 (by decide) (by decide) (by decide), ?_⟩
  refine List.forall_mem_cons.mpr ⟨ok_aload_n F dX3_isAhead_64 rfl (by decide), ?_⟩
  refine List.forall_mem_cons.mpr ⟨ok_getf F flX3_28 dX3_isAhead_65 (by decide), ?_⟩
  refine List.forall_mem_cons.mpr ⟨ok_iload_n F dX3_isAhead_68 rfl (by decide), ?_⟩
  refine List.forall_mem_cons.mpr ⟨ok_iald F dX3_isAhead_69 (by decide), ?_⟩
  refine List.forall_mem_cons.mpr ⟨ok_aload_n F dX3_isAhead_70 rfl (by decide), ?_⟩
  refine List.forall_mem_cons.mpr ⟨ok_getf F flX3_28 dX3_isAhead_71 (by decide), ?_⟩
  refine List.forall_mem_cons.mpr ⟨ok_iload_n F dX3_isAhead_74 rfl (by decide), ?_⟩
  refine List.forall_mem_cons.mpr ⟨ok_iald F dX3_isAhead_75 (by decide), ?_⟩
  refine List.forall_mem_cons.mpr ⟨ok_icmp_ge F dX3_isAhead_76 (by decide) (by decide) (by decide), ?_⟩
  refine List.forall_mem_cons.mpr ⟨ok_iconst F dX3_isAhead_79 (by decide) (by decide), ?_⟩
  refine List.forall_mem_cons.mpr ⟨ok_goto F dX3_isAhead_80 (by decide) (by decide) (by decide), ?_⟩
  refine List.forall_mem_cons.mpr ⟨ok_iconst F dX3_isAhead_83 (by decide) (by decide), ?_⟩
  refine List.forall_mem_cons.mpr ⟨ok_zret F G dX3_isAhead_84 (by decide), ?_⟩
  refine List.forall_mem_cons.mpr ⟨ok_iload_n F dX3_isAhead_85 rfl (by decide), ?_⟩
  refine List.forall_mem_cons.mpr ⟨ok_iload_n F dX3_isAhead_86 rfl (by decide), ?_⟩
  refine List.forall_mem_cons.mpr ⟨ok_icmp_ge F dX3_isAhead_87 (by decide) (by decide) (by decide), ?_⟩
  refine List.forall_mem_cons.mpr ⟨ok_iconst F dX3_isAhead_90 (by decide) (by decide), ?_⟩
  refine List.forall_mem_cons.mpr ⟨ok_goto F dX3_isAhead_91 (by decide) (by decide) (by decide), ?_⟩
  refine List.forall_mem_cons.mpr ⟨ok_iconst F dX3_isAhead_94 (by decide) (by decide), ?_⟩
  refine List.forall_mem_cons.mpr ⟨ok_zret F G dX3_isAhead_95 (by decide), ?_⟩
  exact fun _ h => absurd h List.not_mem_nil
set_option maxRecDepth 100000 in
theorem w_X3_isAhead : (∀ (K : Kt PT) (n : Nat) (L : xL) (st : List Value) (S : PT), nx cod_X3_isAhead cut_X3_isAhead K (n + 1) 0 L st S = (O_aload 0 1) (nx cod_X3_isAhead cut_X3_isAhead K n) 0 L st S) ∧
  (∀ (K : Kt PT) (n : Nat) (L : xL) (st : List Value) (S : PT), nx cod_X3_isAhead cut_X3_isAhead K (n + 1) 1 L st S = (O_getf pW 3 0) (nx cod_X3_isAhead cut_X3_isAhead K n) 1 L st S) ∧
  (∀ (K : Kt PT) (n : Nat) (L : xL) (st : List Value) (S : PT), nx cod_X3_isAhead cut_X3_isAhead K (n + 1) 4 L st S = (O_iload 1 1) (nx cod_X3_isAhead cut_X3_isAhead K n) 4 L st S) ∧
  (∀ (K : Kt PT) (n : Nat) (L : xL) (st : List Value) (S : PT), nx cod_X3_isAhead cut_X3_isAhead K (n + 1) 5 L st S = (O_ald pW 0) (nx cod_X3_isAhead cut_X3_isAhead K n) 5 L st S) ∧
  (∀ (K : Kt PT) (n : Nat) (L : xL) (st : List Value) (S : PT), nx cod_X3_isAhead cut_X3_isAhead K (n + 1) 6 L st S = (O_int 2 1) (nx cod_X3_isAhead cut_X3_isAhead K n) 6 L st S) ∧
  (∀ (K : Kt PT) (n : Nat) (L : xL) (st : List Value) (S : PT), nx cod_X3_isAhead cut_X3_isAhead K (n + 1) 7 L st S = (O_icmp_ne 14) (nx cod_X3_isAhead cut_X3_isAhead K n) 7 L st S) ∧
  (∀ (K : Kt PT) (n : Nat) (L : xL) (st : List Value) (S : PT), nx cod_X3_isAhead cut_X3_isAhead K (n + 1) 10 L st S = (O_int 1 1) (nx cod_X3_isAhead cut_X3_isAhead K n) 10 L st S) ∧
  (∀ (K : Kt PT) (n : Nat) (L : xL) (st : List Value) (S : PT), nx cod_X3_isAhead cut_X3_isAhead K (n + 1) 11 L st S = (O_goto 15) (nx cod_X3_isAhead cut_X3_isAhead K n) 11 L st S) ∧
  (∀ (K : Kt PT) (n : Nat) (L : xL) (st : List Value) (S : PT), nx cod_X3_isAhead cut_X3_isAhead K (n + 1) 14 L st S = (O_int 0 1) (nx cod_X3_isAhead cut_X3_isAhead K n) 14 L st S) ∧
  (∀ (K : Kt PT) (n : Nat) (L : xL) (st : List Value) (S : PT), nx cod_X3_isAhead cut_X3_isAhead K (n + 1) 15 L st S = (O_istore 4 2) (nx cod_X3_isAhead cut_X3_isAhead K n) 15 L st S) ∧
  (∀ (K : Kt PT) (n : Nat) (L : xL) (st : List Value) (S : PT), nx cod_X3_isAhead cut_X3_isAhead K (n + 1) 17 L st S = (O_iload 4 2) (nx cod_X3_isAhead cut_X3_isAhead K n) 17 L st S) ∧
  (∀ (K : Kt PT) (n : Nat) (L : xL) (st : List Value) (S : PT), nx cod_X3_isAhead cut_X3_isAhead K (n + 1) 19 L st S = (O_aload 0 1) (nx cod_X3_isAhead cut_X3_isAhead K n) 19 L st S) ∧
  (∀ (K : Kt PT) (n : Nat) (L : xL) (st : List Value) (S : PT), nx cod_X3_isAhead cut_X3_isAhead K (n + 1) 20 L st S = (O_getf pW 3 0) (nx cod_X3_isAhead cut_X3_isAhead K n) 20 L st S) ∧
  (∀ (K : Kt PT) (n : Nat) (L : xL) (st : List Value) (S : PT), nx cod_X3_isAhead cut_X3_isAhead K (n + 1) 23 L st S = (O_iload 2 1) (nx cod_X3_isAhead cut_X3_isAhead K n) 23 L st S) ∧
  (∀ (K : Kt PT) (n : Nat) (L : xL) (st : List Value) (S : PT), nx cod_X3_isAhead cut_X3_isAhead K (n + 1) 24 L st S = (O_ald pW 0) (nx cod_X3_isAhead cut_X3_isAhead K n) 24 L st S) ∧
  (∀ (K : Kt PT) (n : Nat) (L : xL) (st : List Value) (S : PT), nx cod_X3_isAhead cut_X3_isAhead K (n + 1) 25 L st S = (O_int 2 1) (nx cod_X3_isAhead cut_X3_isAhead K n) 25 L st S) ∧
  (∀ (K : Kt PT) (n : Nat) (L : xL) (st : List Value) (S : PT), nx cod_X3_isAhead cut_X3_isAhead K (n + 1) 26 L st S = (O_icmp_ne 33) (nx cod_X3_isAhead cut_X3_isAhead K n) 26 L st S) ∧
  (∀ (K : Kt PT) (n : Nat) (L : xL) (st : List Value) (S : PT), nx cod_X3_isAhead cut_X3_isAhead K (n + 1) 29 L st S = (O_int 1 1) (nx cod_X3_isAhead cut_X3_isAhead K n) 29 L st S) ∧
  (∀ (K : Kt PT) (n : Nat) (L : xL) (st : List Value) (S : PT), nx cod_X3_isAhead cut_X3_isAhead K (n + 1) 30 L st S = (O_goto 34) (nx cod_X3_isAhead cut_X3_isAhead K n) 30 L st S) ∧
  (∀ (K : Kt PT) (n : Nat) (L : xL) (st : List Value) (S : PT), nx cod_X3_isAhead cut_X3_isAhead K (n + 1) 33 L st S = (O_int 0 1) (nx cod_X3_isAhead cut_X3_isAhead K n) 33 L st S) ∧
  (∀ (K : Kt PT) (n : Nat) (L : xL) (st : List Value) (S : PT), nx cod_X3_isAhead cut_X3_isAhead K (n + 1) 34 L st S = (O_icmp_eq 49) (nx cod_X3_isAhead cut_X3_isAhead K n) 34 L st S) ∧
  (∀ (K : Kt PT) (n : Nat) (L : xL) (st : List Value) (S : PT), nx cod_X3_isAhead cut_X3_isAhead K (n + 1) 37 L st S = (O_iload 4 2) (nx cod_X3_isAhead cut_X3_isAhead K n) 37 L st S) ∧
  (∀ (K : Kt PT) (n : Nat) (L : xL) (st : List Value) (S : PT), nx cod_X3_isAhead cut_X3_isAhead K (n + 1) 39 L st S = (O_iload 3 1) (nx cod_X3_isAhead cut_X3_isAhead K n) 39 L st S) ∧
  (∀ (K : Kt PT) (n : Nat) (L : xL) (st : List Value) (S : PT), nx cod_X3_isAhead cut_X3_isAhead K (n + 1) 40 L st S = (O_icmp_ne 47) (nx cod_X3_isAhead cut_X3_isAhead K n) 40 L st S) ∧
  (∀ (K : Kt PT) (n : Nat) (L : xL) (st : List Value) (S : PT), nx cod_X3_isAhead cut_X3_isAhead K (n + 1) 43 L st S = (O_int 1 1) (nx cod_X3_isAhead cut_X3_isAhead K n) 43 L st S) ∧
  (∀ (K : Kt PT) (n : Nat) (L : xL) (st : List Value) (S : PT), nx cod_X3_isAhead cut_X3_isAhead K (n + 1) 44 L st S = (O_goto 48) (nx cod_X3_isAhead cut_X3_isAhead K n) 44 L st S) ∧
  (∀ (K : Kt PT) (n : Nat) (L : xL) (st : List Value) (S : PT), nx cod_X3_isAhead cut_X3_isAhead K (n + 1) 47 L st S = (O_int 0 1) (nx cod_X3_isAhead cut_X3_isAhead K n) 47 L st S) ∧
  (∀ (K : Kt PT) (n : Nat) (L : xL) (st : List Value) (S : PT), nx cod_X3_isAhead cut_X3_isAhead K (n + 1) 48 L st S = (O_zret) (nx cod_X3_isAhead cut_X3_isAhead K n) 48 L st S) ∧
  (∀ (K : Kt PT) (n : Nat) (L : xL) (st : List Value) (S : PT), nx cod_X3_isAhead cut_X3_isAhead K (n + 1) 49 L st S = (O_aload 0 1) (nx cod_X3_isAhead cut_X3_isAhead K n) 49 L st S) ∧
  (∀ (K : Kt PT) (n : Nat) (L : xL) (st : List Value) (S : PT), nx cod_X3_isAhead cut_X3_isAhead K (n + 1) 50 L st S = (O_getf pW 3 5) (nx cod_X3_isAhead cut_X3_isAhead K n) 50 L st S) ∧
  (∀ (K : Kt PT) (n : Nat) (L : xL) (st : List Value) (S : PT), nx cod_X3_isAhead cut_X3_isAhead K (n + 1) 53 L st S = (O_iload 1 1) (nx cod_X3_isAhead cut_X3_isAhead K n) 53 L st S) ∧
  (∀ (K : Kt PT) (n : Nat) (L : xL) (st : List Value) (S : PT), nx cod_X3_isAhead cut_X3_isAhead K (n + 1) 54 L st S = (O_ald pW 0) (nx cod_X3_isAhead cut_X3_isAhead K n) 54 L st S) ∧
  (∀ (K : Kt PT) (n : Nat) (L : xL) (st : List Value) (S : PT), nx cod_X3_isAhead cut_X3_isAhead K (n + 1) 55 L st S = (O_aload 0 1) (nx cod_X3_isAhead cut_X3_isAhead K n) 55 L st S) ∧
  (∀ (K : Kt PT) (n : Nat) (L : xL) (st : List Value) (S : PT), nx cod_X3_isAhead cut_X3_isAhead K (n + 1) 56 L st S = (O_getf pW 3 5) (nx cod_X3_isAhead cut_X3_isAhead K n) 56 L st S) ∧
  (∀ (K : Kt PT) (n : Nat) (L : xL) (st : List Value) (S : PT), nx cod_X3_isAhead cut_X3_isAhead K (n + 1) 59 L st S = (O_iload 2 1) (nx cod_X3_isAhead cut_X3_isAhead K n) 59 L st S) ∧
  (∀ (K : Kt PT) (n : Nat) (L : xL) (st : List Value) (S : PT), nx cod_X3_isAhead cut_X3_isAhead K (n + 1) 60 L st S = (O_ald pW 0) (nx cod_X3_isAhead cut_X3_isAhead K n) 60 L st S) ∧
  (∀ (K : Kt PT) (n : Nat) (L : xL) (st : List Value) (S : PT), nx cod_X3_isAhead cut_X3_isAhead K (n + 1) 61 L st S = (O_icmp_eq 85) (nx cod_X3_isAhead cut_X3_isAhead K n) 61 L st S) ∧
  (∀ (K : Kt PT) (n : Nat) (L : xL) (st : List Value) (S : PT), nx cod_X3_isAhead cut_X3_isAhead K (n + 1) 64 L st S = (O_aload 0 1) (nx cod_X3_isAhead cut_X3_isAhead K n) 64 L st S) ∧
  (∀ (K : Kt PT) (n : Nat) (L : xL) (st : List Value) (S : PT), nx cod_X3_isAhead cut_X3_isAhead K (n + 1) 65 L st S = (O_getf pW 3 5) (nx cod_X3_isAhead cut_X3_isAhead K n) 65 L st S) ∧
  (∀ (K : Kt PT) (n : Nat) (L : xL) (st : List Value) (S : PT), nx cod_X3_isAhead cut_X3_isAhead K (n + 1) 68 L st S = (O_iload 1 1) (nx cod_X3_isAhead cut_X3_isAhead K n) 68 L st S) ∧
  (∀ (K : Kt PT) (n : Nat) (L : xL) (st : List Value) (S : PT), nx cod_X3_isAhead cut_X3_isAhead K (n + 1) 69 L st S = (O_ald pW 0) (nx cod_X3_isAhead cut_X3_isAhead K n) 69 L st S) ∧
  (∀ (K : Kt PT) (n : Nat) (L : xL) (st : List Value) (S : PT), nx cod_X3_isAhead cut_X3_isAhead K (n + 1) 70 L st S = (O_aload 0 1) (nx cod_X3_isAhead cut_X3_isAhead K n) 70 L st S) ∧
  (∀ (K : Kt PT) (n : Nat) (L : xL) (st : List Value) (S : PT), nx cod_X3_isAhead cut_X3_isAhead K (n + 1) 71 L st S = (O_getf pW 3 5) (nx cod_X3_isAhead cut_X3_isAhead K n) 71 L st S) ∧
  (∀ (K : Kt PT) (n : Nat) (L : xL) (st : List Value) (S : PT), nx cod_X3_isAhead cut_X3_isAhead K (n + 1) 74 L st S = (O_iload 2 1) (nx cod_X3_isAhead cut_X3_isAhead K n) 74 L st S) ∧
  (∀ (K : Kt PT) (n : Nat) (L : xL) (st : List Value) (S : PT), nx cod_X3_isAhead cut_X3_isAhead K (n + 1) 75 L st S = (O_ald pW 0) (nx cod_X3_isAhead cut_X3_isAhead K n) 75 L st S) ∧
  (∀ (K : Kt PT) (n : Nat) (L : xL) (st : List Value) (S : PT), nx cod_X3_isAhead cut_X3_isAhead K (n + 1) 76 L st S = (O_icmp_ge 83) (nx cod_X3_isAhead cut_X3_isAhead K n) 76 L st S) ∧
  (∀ (K : Kt PT) (n : Nat) (L : xL) (st : List Value) (S : PT), nx cod_X3_isAhead cut_X3_isAhead K (n + 1) 79 L st S = (O_int 1 1) (nx cod_X3_isAhead cut_X3_isAhead K n) 79 L st S) ∧
  (∀ (K : Kt PT) (n : Nat) (L : xL) (st : List Value) (S : PT), nx cod_X3_isAhead cut_X3_isAhead K (n + 1) 80 L st S = (O_goto 84) (nx cod_X3_isAhead cut_X3_isAhead K n) 80 L st S) ∧
  (∀ (K : Kt PT) (n : Nat) (L : xL) (st : List Value) (S : PT), nx cod_X3_isAhead cut_X3_isAhead K (n + 1) 83 L st S = (O_int 0 1) (nx cod_X3_isAhead cut_X3_isAhead K n) 83 L st S) ∧
  (∀ (K : Kt PT) (n : Nat) (L : xL) (st : List Value) (S : PT), nx cod_X3_isAhead cut_X3_isAhead K (n + 1) 84 L st S = (O_zret) (nx cod_X3_isAhead cut_X3_isAhead K n) 84 L st S) ∧
  (∀ (K : Kt PT) (n : Nat) (L : xL) (st : List Value) (S : PT), nx cod_X3_isAhead cut_X3_isAhead K (n + 1) 85 L st S = (O_iload 1 1) (nx cod_X3_isAhead cut_X3_isAhead K n) 85 L st S) ∧
  (∀ (K : Kt PT) (n : Nat) (L : xL) (st : List Value) (S : PT), nx cod_X3_isAhead cut_X3_isAhead K (n + 1) 86 L st S = (O_iload 2 1) (nx cod_X3_isAhead cut_X3_isAhead K n) 86 L st S) ∧
  (∀ (K : Kt PT) (n : Nat) (L : xL) (st : List Value) (S : PT), nx cod_X3_isAhead cut_X3_isAhead K (n + 1) 87 L st S = (O_icmp_ge 94) (nx cod_X3_isAhead cut_X3_isAhead K n) 87 L st S) ∧
  (∀ (K : Kt PT) (n : Nat) (L : xL) (st : List Value) (S : PT), nx cod_X3_isAhead cut_X3_isAhead K (n + 1) 90 L st S = (O_int 1 1) (nx cod_X3_isAhead cut_X3_isAhead K n) 90 L st S) ∧
  (∀ (K : Kt PT) (n : Nat) (L : xL) (st : List Value) (S : PT), nx cod_X3_isAhead cut_X3_isAhead K (n + 1) 91 L st S = (O_goto 95) (nx cod_X3_isAhead cut_X3_isAhead K n) 91 L st S) ∧
  (∀ (K : Kt PT) (n : Nat) (L : xL) (st : List Value) (S : PT), nx cod_X3_isAhead cut_X3_isAhead K (n + 1) 94 L st S = (O_int 0 1) (nx cod_X3_isAhead cut_X3_isAhead K n) 94 L st S) ∧
  (∀ (K : Kt PT) (n : Nat) (L : xL) (st : List Value) (S : PT), nx cod_X3_isAhead cut_X3_isAhead K (n + 1) 95 L st S = (O_zret) (nx cod_X3_isAhead cut_X3_isAhead K n) 95 L st S) ∧
  (∀ (K : Kt PT) (n : Nat) (L : xL) (st : List Value) (S : PT), nx cod_X3_isAhead cut_X3_isAhead K (n + 1) 100000 L st S = K 100000 L st S) := by
  repeat' apply And.intro
  all_goals (intros; rfl)
set_option maxRecDepth 100000 in
theorem mk_X3_isAhead {P P' : PT} {r : Option Value} {p0 : Int32} {p1 : Int32} {p2 : Int32} (body : ∀ E : En, CodOk E pW cod_X3_isAhead → Gd E pW 100000 [] r.toList P' → Gd E pW 0 [some (.ref 0), some (.int p0), some (.int p1), some (.int p2), none] [] P) : Con yX3_isAhead cX3_isAhead 5 (some .boolean) 0 pW [.ref 0, .int p0, .int p1, .int p2] P r P' :=
  Con.of (by decide) rfl rfl (Nat.le_of_ble_eq_true rfl) (fun E F G hr => body E (okc_X3_isAhead F G) hr)
theorem con_X3_isAhead (S : PT) (x : Int32) (y : Int32) (nr : Int32) (hp : vp_in x 6 ∧ vp_in y 6) : Con yX3_isAhead cX3_isAhead 5 (some .boolean) 0 pW [.ref 0, .int x, .int y, .int nr] S (some (.int (bI (S.ahead x.toNatClampNeg y.toNatClampNeg nr)))) (S) := by
  refine mk_X3_isAhead (fun E C hr => ?_)
  have hxy : x < y ↔ x.toNatClampNeg < y.toNatClampNeg := by
    obtain ⟨a, ha, rfl⟩ := vp_in_of hp.1 (by omega)
    obtain ⟨b, hb, rfl⟩ := vp_in_of hp.2 (by omega)
    rw [nI_clamp (by omega), nI_clamp (by omega), nI_ltI (by omega) (by omega)]
  (refine nx_ok C (cuts := cut_X3_isAhead) 1000 _ _ _ _ ?_; simp only [w_X3_isAhead, ops_eq, xst_eq, call_eq, oK_eq, Option.toList_some, Option.toList_none, List.cons_append, List.nil_append, List.length_cons, List.length_nil, true_and, and_true, Nat.reduceAdd, pW_F, pW_A, pW_S, pW_P, PT_gs, bI_eq, hp, hxy])
  ((repeat' (with_reducible first | apply And.intro | intro _)) <;> simp_all [PT.ahead, bI, PT_gs])
def sp_X3_isAhead : Sp PT := fun av S K => match av with
  | [.ref 0, .int x, .int y, .int nr] => (vp_in x 6 ∧ vp_in y 6) ∧ K (some (.int (bI (S.ahead x.toNatClampNeg y.toNatClampNeg nr)))) (S)
  | _ => False
theorem se_X3_isAhead (x : Int32) (y : Int32) (nr : Int32) (S : PT) (K : Option Value → PT → Prop) : sp_X3_isAhead [.ref 0, .int x, .int y, .int nr] S K = ((vp_in x 6 ∧ vp_in y 6) ∧ K (some (.int (bI (S.ahead x.toNatClampNeg y.toNatClampNeg nr)))) (S)) := rfl
theorem spok_X3_isAhead : SpOk yX3_isAhead cX3_isAhead 5 (some .boolean) 0 pW sp_X3_isAhead := by
  intro av S K h
  unfold sp_X3_isAhead at h
  split at h
  · rename_i x y nr; exact ⟨some (.int (bI (S.ahead x.toNatClampNeg y.toNatClampNeg nr))), S, trivial, con_X3_isAhead S x y nr h.1, h.2⟩
  · exact h.elim
def PT.aheadN (S : PT) (i : Nat) (nr : Int32) : Int32 := it (fun o r => r + bI (S.rdy o && S.ahead o i nr)) 0 S.n
def cod_X3_readyAhead : List (Nat × Op PT) := [(0, O_int 0 1), (1, O_istore 3 1), (2, O_int 0 1), (3, O_istore 4 2), (5, O_iload 4 2), (7, O_aload 0 1), (8, O_getf pW 3 8), (11, O_icmp_ge 48), (14, O_iload 3 1), (15, O_aload 0 1), (16, O_iload 4 2), (18, O_callV 1 0 (fun S => S) (fun _ S' => S') sp_X3_isReady), (21, O_if_eq 39), (24, O_aload 0 1), (25, O_iload 4 2), (27, O_iload 1 1), (28, O_iload 2 1), (29, O_callV 3 0 (fun S => S) (fun _ S' => S') sp_X3_isAhead), (32, O_if_eq 39), (35, O_int 1 1), (36, O_goto 40), (39, O_int 0 1), (40, O_iadd), (41, O_istore 3 1), (42, O_iinc 4 1), (45, O_goto 5), (48, O_iload 3 1), (49, O_iret)]
abbrev cut_X3_readyAhead : List Nat := [5]
set_option maxRecDepth 100000 in
theorem okc_X3_readyAhead {E : En} (F : Fx E RX3 cX3_readyAhead 5 1) (G : Fr E (some .int)) : CodOk E pW cod_X3_readyAhead := by
  unfold CodOk cod_X3_readyAhead
  refine List.forall_mem_cons.mpr ⟨ok_iconst F dX3_readyAhead_0 (by decide) (by decide), ?_⟩
  refine List.forall_mem_cons.mpr ⟨ok_istore_n F dX3_readyAhead_1 rfl (by decide) (by decide), ?_⟩
  refine List.forall_mem_cons.mpr ⟨ok_iconst F dX3_readyAhead_2 (by decide) (by decide), ?_⟩
  refine List.forall_mem_cons.mpr ⟨ok_istore F dX3_readyAhead_3 (by decide) (by decide), ?_⟩
  refine List.forall_mem_cons.mpr ⟨ok_iload F dX3_readyAhead_5 (by decide), ?_⟩
  refine List.forall_mem_cons.mpr ⟨ok_aload_n F dX3_readyAhead_7 rfl (by decide), ?_⟩
  refine List.forall_mem_cons.mpr ⟨ok_getf F flX3_47 dX3_readyAhead_8 (by decide), ?_⟩
  refine List.forall_mem_cons.mpr ⟨ok_icmp_ge F dX3_readyAhead_11 (by decide) (by decide) (by decide), ?_⟩
  refine List.forall_mem_cons.mpr ⟨ok_iload_n F dX3_readyAhead_14 rfl (by decide), ?_⟩
  refine List.forall_mem_cons.mpr ⟨ok_aload_n F dX3_readyAhead_15 rfl (by decide), ?_⟩
  refine List.forall_mem_cons.mpr ⟨ok_iload F dX3_readyAhead_16 (by decide), ?_⟩
  refine List.forall_mem_cons.mpr ⟨ok_callV F spok_X3_isReady (ln_id pW) rcv_pW (by decide +kernel) (by decide) dX3_readyAhead_18 (by decide), ?_⟩
  refine List.forall_mem_cons.mpr ⟨ok_if_eq F dX3_readyAhead_21 (by decide) (by decide) (by decide), ?_⟩
  refine List.forall_mem_cons.mpr ⟨ok_aload_n F dX3_readyAhead_24 rfl (by decide), ?_⟩
  refine List.forall_mem_cons.mpr ⟨ok_iload F dX3_readyAhead_25 (by decide), ?_⟩
  refine List.forall_mem_cons.mpr ⟨ok_iload_n F dX3_readyAhead_27 rfl (by decide), ?_⟩
  refine List.forall_mem_cons.mpr ⟨ok_iload_n F dX3_readyAhead_28 rfl (by decide), ?_⟩
  refine List.forall_mem_cons.mpr ⟨ok_callV F spok_X3_isAhead (ln_id pW) rcv_pW (by decide +kernel) (by decide) dX3_readyAhead_29 (by decide), ?_⟩
  refine List.forall_mem_cons.mpr ⟨ok_if_eq F dX3_readyAhead_32 (by decide) (by decide) (by decide), ?_⟩
  refine List.forall_mem_cons.mpr ⟨ok_iconst F dX3_readyAhead_35 (by decide) (by decide), ?_⟩
  refine List.forall_mem_cons.mpr ⟨ok_goto F dX3_readyAhead_36 (by decide) (by decide) (by decide), ?_⟩
  refine List.forall_mem_cons.mpr ⟨ok_iconst F dX3_readyAhead_39 (by decide) (by decide), ?_⟩
  refine List.forall_mem_cons.mpr ⟨ok_iadd F dX3_readyAhead_40 (by decide), ?_⟩
  refine List.forall_mem_cons.mpr ⟨ok_istore_n F dX3_readyAhead_41 rfl (by decide) (by decide), ?_⟩
  refine List.forall_mem_cons.mpr ⟨ok_iinc F dX3_readyAhead_42 (by decide) (by decide) (by decide), ?_⟩
  refine List.forall_mem_cons.mpr ⟨ok_goto F dX3_readyAhead_45 (by decide) (by decide) (by decide), ?_⟩
  refine List.forall_mem_cons.mpr ⟨ok_iload_n F dX3_readyAhead_48 rfl (by decide), ?_⟩
  refine List.forall_mem_cons.mpr ⟨ok_iret F G dX3_readyAhead_49 (by decide), ?_⟩
  exact fun _ h => absurd h List.not_mem_nil
set_option maxRecDepth 100000 in
theorem w_X3_readyAhead : (∀ (K : Kt PT) (n : Nat) (L : xL) (st : List Value) (S : PT), nx cod_X3_readyAhead cut_X3_readyAhead K (n + 1) 0 L st S = (O_int 0 1) (nx cod_X3_readyAhead cut_X3_readyAhead K n) 0 L st S) ∧
  (∀ (K : Kt PT) (n : Nat) (L : xL) (st : List Value) (S : PT), nx cod_X3_readyAhead cut_X3_readyAhead K (n + 1) 1 L st S = (O_istore 3 1) (nx cod_X3_readyAhead cut_X3_readyAhead K n) 1 L st S) ∧
  (∀ (K : Kt PT) (n : Nat) (L : xL) (st : List Value) (S : PT), nx cod_X3_readyAhead cut_X3_readyAhead K (n + 1) 2 L st S = (O_int 0 1) (nx cod_X3_readyAhead cut_X3_readyAhead K n) 2 L st S) ∧
  (∀ (K : Kt PT) (n : Nat) (L : xL) (st : List Value) (S : PT), nx cod_X3_readyAhead cut_X3_readyAhead K (n + 1) 3 L st S = (O_istore 4 2) (nx cod_X3_readyAhead cut_X3_readyAhead K n) 3 L st S) ∧
  (∀ (K : Kt PT) (n : Nat) (L : xL) (st : List Value) (S : PT), nx cod_X3_readyAhead cut_X3_readyAhead K (n + 1) 5 L st S = K 5 L st S) ∧
  (∀ (K : Kt PT) (n : Nat) (L : xL) (st : List Value) (S : PT), nx1 cod_X3_readyAhead cut_X3_readyAhead K n 5 L st S = (O_iload 4 2) (nx cod_X3_readyAhead cut_X3_readyAhead K n) 5 L st S) ∧
  (∀ (K : Kt PT) (n : Nat) (L : xL) (st : List Value) (S : PT), nx cod_X3_readyAhead cut_X3_readyAhead K (n + 1) 7 L st S = (O_aload 0 1) (nx cod_X3_readyAhead cut_X3_readyAhead K n) 7 L st S) ∧
  (∀ (K : Kt PT) (n : Nat) (L : xL) (st : List Value) (S : PT), nx cod_X3_readyAhead cut_X3_readyAhead K (n + 1) 8 L st S = (O_getf pW 3 8) (nx cod_X3_readyAhead cut_X3_readyAhead K n) 8 L st S) ∧
  (∀ (K : Kt PT) (n : Nat) (L : xL) (st : List Value) (S : PT), nx cod_X3_readyAhead cut_X3_readyAhead K (n + 1) 11 L st S = (O_icmp_ge 48) (nx cod_X3_readyAhead cut_X3_readyAhead K n) 11 L st S) ∧
  (∀ (K : Kt PT) (n : Nat) (L : xL) (st : List Value) (S : PT), nx cod_X3_readyAhead cut_X3_readyAhead K (n + 1) 14 L st S = (O_iload 3 1) (nx cod_X3_readyAhead cut_X3_readyAhead K n) 14 L st S) ∧
  (∀ (K : Kt PT) (n : Nat) (L : xL) (st : List Value) (S : PT), nx cod_X3_readyAhead cut_X3_readyAhead K (n + 1) 15 L st S = (O_aload 0 1) (nx cod_X3_readyAhead cut_X3_readyAhead K n) 15 L st S) ∧
  (∀ (K : Kt PT) (n : Nat) (L : xL) (st : List Value) (S : PT), nx cod_X3_readyAhead cut_X3_readyAhead K (n + 1) 16 L st S = (O_iload 4 2) (nx cod_X3_readyAhead cut_X3_readyAhead K n) 16 L st S) ∧
  (∀ (K : Kt PT) (n : Nat) (L : xL) (st : List Value) (S : PT), nx cod_X3_readyAhead cut_X3_readyAhead K (n + 1) 18 L st S = (O_callV 1 0 (fun S => S) (fun _ S' => S') sp_X3_isReady) (nx cod_X3_readyAhead cut_X3_readyAhead K n) 18 L st S) ∧
  (∀ (K : Kt PT) (n : Nat) (L : xL) (st : List Value) (S : PT), nx cod_X3_readyAhead cut_X3_readyAhead K (n + 1) 21 L st S = (O_if_eq 39) (nx cod_X3_readyAhead cut_X3_readyAhead K n) 21 L st S) ∧
  (∀ (K : Kt PT) (n : Nat) (L : xL) (st : List Value) (S : PT), nx cod_X3_readyAhead cut_X3_readyAhead K (n + 1) 24 L st S = (O_aload 0 1) (nx cod_X3_readyAhead cut_X3_readyAhead K n) 24 L st S) ∧
  (∀ (K : Kt PT) (n : Nat) (L : xL) (st : List Value) (S : PT), nx cod_X3_readyAhead cut_X3_readyAhead K (n + 1) 25 L st S = (O_iload 4 2) (nx cod_X3_readyAhead cut_X3_readyAhead K n) 25 L st S) ∧
  (∀ (K : Kt PT) (n : Nat) (L : xL) (st : List Value) (S : PT), nx cod_X3_readyAhead cut_X3_readyAhead K (n + 1) 27 L st S = (O_iload 1 1) (nx cod_X3_readyAhead cut_X3_readyAhead K n) 27 L st S) ∧
  (∀ (K : Kt PT) (n : Nat) (L : xL) (st : List Value) (S : PT), nx cod_X3_readyAhead cut_X3_readyAhead K (n + 1) 28 L st S = (O_iload 2 1) (nx cod_X3_readyAhead cut_X3_readyAhead K n) 28 L st S) ∧
  (∀ (K : Kt PT) (n : Nat) (L : xL) (st : List Value) (S : PT), nx cod_X3_readyAhead cut_X3_readyAhead K (n + 1) 29 L st S = (O_callV 3 0 (fun S => S) (fun _ S' => S') sp_X3_isAhead) (nx cod_X3_readyAhead cut_X3_readyAhead K n) 29 L st S) ∧
  (∀ (K : Kt PT) (n : Nat) (L : xL) (st : List Value) (S : PT), nx cod_X3_readyAhead cut_X3_readyAhead K (n + 1) 32 L st S = (O_if_eq 39) (nx cod_X3_readyAhead cut_X3_readyAhead K n) 32 L st S) ∧
  (∀ (K : Kt PT) (n : Nat) (L : xL) (st : List Value) (S : PT), nx cod_X3_readyAhead cut_X3_readyAhead K (n + 1) 35 L st S = (O_int 1 1) (nx cod_X3_readyAhead cut_X3_readyAhead K n) 35 L st S) ∧
  (∀ (K : Kt PT) (n : Nat) (L : xL) (st : List Value) (S : PT), nx cod_X3_readyAhead cut_X3_readyAhead K (n + 1) 36 L st S = (O_goto 40) (nx cod_X3_readyAhead cut_X3_readyAhead K n) 36 L st S) ∧
  (∀ (K : Kt PT) (n : Nat) (L : xL) (st : List Value) (S : PT), nx cod_X3_readyAhead cut_X3_readyAhead K (n + 1) 39 L st S = (O_int 0 1) (nx cod_X3_readyAhead cut_X3_readyAhead K n) 39 L st S) ∧
  (∀ (K : Kt PT) (n : Nat) (L : xL) (st : List Value) (S : PT), nx cod_X3_readyAhead cut_X3_readyAhead K (n + 1) 40 L st S = (O_iadd) (nx cod_X3_readyAhead cut_X3_readyAhead K n) 40 L st S) ∧
  (∀ (K : Kt PT) (n : Nat) (L : xL) (st : List Value) (S : PT), nx cod_X3_readyAhead cut_X3_readyAhead K (n + 1) 41 L st S = (O_istore 3 1) (nx cod_X3_readyAhead cut_X3_readyAhead K n) 41 L st S) ∧
  (∀ (K : Kt PT) (n : Nat) (L : xL) (st : List Value) (S : PT), nx cod_X3_readyAhead cut_X3_readyAhead K (n + 1) 42 L st S = (O_iinc 4 1) (nx cod_X3_readyAhead cut_X3_readyAhead K n) 42 L st S) ∧
  (∀ (K : Kt PT) (n : Nat) (L : xL) (st : List Value) (S : PT), nx cod_X3_readyAhead cut_X3_readyAhead K (n + 1) 45 L st S = (O_goto 5) (nx cod_X3_readyAhead cut_X3_readyAhead K n) 45 L st S) ∧
  (∀ (K : Kt PT) (n : Nat) (L : xL) (st : List Value) (S : PT), nx cod_X3_readyAhead cut_X3_readyAhead K (n + 1) 48 L st S = (O_iload 3 1) (nx cod_X3_readyAhead cut_X3_readyAhead K n) 48 L st S) ∧
  (∀ (K : Kt PT) (n : Nat) (L : xL) (st : List Value) (S : PT), nx cod_X3_readyAhead cut_X3_readyAhead K (n + 1) 49 L st S = (O_iret) (nx cod_X3_readyAhead cut_X3_readyAhead K n) 49 L st S) ∧
  (∀ (K : Kt PT) (n : Nat) (L : xL) (st : List Value) (S : PT), nx cod_X3_readyAhead cut_X3_readyAhead K (n + 1) 100000 L st S = K 100000 L st S) := by
  repeat' apply And.intro
  all_goals (intros; rfl)
set_option maxRecDepth 100000 in
theorem mk_X3_readyAhead {P P' : PT} {r : Option Value} {p0 : Int32} {p1 : Int32} (body : ∀ E : En, CodOk E pW cod_X3_readyAhead → Gd E pW 100000 [] r.toList P' → Gd E pW 0 [some (.ref 0), some (.int p0), some (.int p1), none, none] [] P) : Con yX3_readyAhead cX3_readyAhead 5 (some .int) 1 pW [.ref 0, .int p0, .int p1] P r P' :=
  Con.of (by decide) rfl rfl (Nat.le_of_ble_eq_true rfl) (fun E F G hr => body E (okc_X3_readyAhead F G) hr)
theorem con_X3_readyAhead (S : PT) (x : Int32) (nr : Int32) (hp : S.ok ∧ vp_in x 6) : Con yX3_readyAhead cX3_readyAhead 5 (some .int) 1 pW [.ref 0, .int x, .int nr] S (some (.int (S.aheadN x.toNatClampNeg nr))) (S) := by
  refine mk_X3_readyAhead (fun E C hr => ?_)
  (refine nx_ok C (cuts := cut_X3_readyAhead) 1000 _ _ _ _ ?_; simp only [w_X3_readyAhead, ops_eq, xst_eq, call_eq, oK_eq, Option.toList_some, Option.toList_none, List.cons_append, List.nil_append, List.length_cons, List.length_nil, true_and, and_true, Nat.reduceAdd, pW_F, pW_A, pW_S, pW_P, PT_gs, se_X3_isReady, se_X3_isAhead])
  refine it_up (f := fun o r => r + bI (S.rdy o && S.ahead o x.toNatClampNeg nr)) (n := S.n) (fun _ _ => True) (fun i r => Gd E pW 5 [some (.ref 0), some (.int x), some (.int nr), some (.int r), some (.int (nI i))] [] S) trivial (fun _ _ _ _ => trivial) (fun i r hi _ hn => ?_) ?_
  · have hx := ixs hp.1 hi
    (refine nx1_ok C cut_X3_readyAhead 1000 ?_; simp only [w_X3_readyAhead, ops_eq, xst_eq, call_eq, oK_eq, Option.toList_some, Option.toList_none, List.cons_append, List.nil_append, List.length_cons, List.length_nil, true_and, and_true, Nat.reduceAdd, pW_F, pW_A, pW_S, pW_P, PT_gs, se_X3_isReady, se_X3_isAhead, hx, hp.2, bI_eq])
    ((repeat' (with_reducible first | apply And.intro | intro _)) <;> simp_all [bI, PT_gs])
  · have hx := ixe hp.1
    (refine nx1_ok C cut_X3_readyAhead 1000 ?_; simp only [w_X3_readyAhead, ops_eq, xst_eq, call_eq, oK_eq, Option.toList_some, Option.toList_none, List.cons_append, List.nil_append, List.length_cons, List.length_nil, true_and, and_true, Nat.reduceAdd, pW_F, pW_A, pW_S, pW_P, PT_gs, se_X3_isReady, se_X3_isAhead, hx])
    ((repeat' (with_reducible first | apply And.intro | intro _)) <;> simp_all [PT.aheadN, PT_gs])
def sp_X3_readyAhead : Sp PT := fun av S K => match av with
  | [.ref 0, .int x, .int nr] => (S.ok ∧ vp_in x 6) ∧ K (some (.int (S.aheadN x.toNatClampNeg nr))) (S)
  | _ => False
theorem se_X3_readyAhead (x : Int32) (nr : Int32) (S : PT) (K : Option Value → PT → Prop) : sp_X3_readyAhead [.ref 0, .int x, .int nr] S K = ((S.ok ∧ vp_in x 6) ∧ K (some (.int (S.aheadN x.toNatClampNeg nr))) (S)) := rfl
theorem spok_X3_readyAhead : SpOk yX3_readyAhead cX3_readyAhead 5 (some .int) 1 pW sp_X3_readyAhead := by
  intro av S K h
  unfold sp_X3_readyAhead at h
  split at h
  · rename_i x nr; exact ⟨some (.int (S.aheadN x.toNatClampNeg nr)), S, trivial, con_X3_readyAhead S x nr h.1, h.2⟩
  · exact h.elim
def fstN (c : Nat → Bool) : Nat → Option Nat := it (fun p x => if x.isSome then x else if c p then some p else none) none
theorem fstN_up {c : Nat → Bool} {n : Nat} (G : Nat → Prop) (R : Nat → Prop) (hs : ∀ i, i < n → (c i = true → R i) → (c i = false → G (i + 1)) → G i) (hS : ∀ p, fstN c n = some p → R p) (hN : fstN c n = none → G n) : G 0 := by
  refine it_up (f := fun p x => if x.isSome then x else if c p then some p else none) (n := n) (a := none) (fun _ _ => True) (fun i x => match x with | some p => R p | none => G i) trivial (fun _ _ _ _ => trivial) (fun i x hi _ hn => ?_) ?_
  · cases x with
    | some p => simpa using hn
    | none =>
      cases hc : c i with
      | true => exact hs i hi (fun _ => by simpa [hc] using hn) (fun q => by rw [hc] at q; cases q)
      | false => exact hs i hi (fun q => by rw [hc] at q; cases q) (fun _ => by simpa [hc] using hn)
  · show match fstN c n with | some p => R p | none => G n
    cases h : fstN c n with
    | some p => exact hS p h
    | none => exact hN h
def oI : Option Nat → Int32
  | some p => nI p
  | none => -1
def PT.noRun (S : PT) : Int32 := bI (decide (S.running = 0))
def PT.inOrd (S : PT) (place : Int32) : Option Nat := fstN (fun p => S.rdy p && decide (S.aheadN p S.noRun = place)) S.n
def cod_X3_readyInOrder : List (Nat × Op PT) := [(0, O_aload 0 1), (1, O_callV 0 0 (fun S => S) (fun _ S' => S') sp_X3_running), (4, O_if_ne 11), (7, O_int 1 1), (8, O_goto 12), (11, O_int 0 1), (12, O_istore 2 1), (13, O_int 0 1), (14, O_istore 3 1), (15, O_iload 3 1), (16, O_aload 0 1), (17, O_getf pW 3 8), (20, O_icmp_ge 49), (23, O_aload 0 1), (24, O_iload 3 1), (25, O_callV 1 0 (fun S => S) (fun _ S' => S') sp_X3_isReady), (28, O_if_eq 43), (31, O_aload 0 1), (32, O_iload 3 1), (33, O_iload 2 1), (34, O_callV 2 0 (fun S => S) (fun _ S' => S') sp_X3_readyAhead), (37, O_iload 1 1), (38, O_icmp_ne 43), (41, O_iload 3 1), (42, O_iret), (43, O_iinc 3 1), (46, O_goto 15), (49, O_int (-1) 1), (50, O_iret)]
abbrev cut_X3_readyInOrder : List Nat := [15]
set_option maxRecDepth 100000 in
theorem okc_X3_readyInOrder {E : En} (F : Fx E RX3 cX3_readyInOrder 4 2) (G : Fr E (some .int)) : CodOk E pW cod_X3_readyInOrder := by
  unfold CodOk cod_X3_readyInOrder
  refine List.forall_mem_cons.mpr ⟨ok_aload_n F dX3_readyInOrder_0 rfl (by decide), ?_⟩
  refine List.forall_mem_cons.mpr ⟨ok_callV F spok_X3_running (ln_id pW) rcv_pW (by decide +kernel) (by decide) dX3_readyInOrder_1 (by decide), ?_⟩
  refine List.forall_mem_cons.mpr ⟨ok_if_ne F dX3_readyInOrder_4 (by decide) (by decide) (by decide), ?_⟩
  refine List.forall_mem_cons.mpr ⟨ok_iconst F dX3_readyInOrder_7 (by decide) (by decide), ?_⟩
  refine List.forall_mem_cons.mpr ⟨ok_goto F dX3_readyInOrder_8 (by decide) (by decide) (by decide), ?_⟩
  refine List.forall_mem_cons.mpr ⟨ok_iconst F dX3_readyInOrder_11 (by decide) (by decide), ?_⟩
  refine List.forall_mem_cons.mpr ⟨ok_istore_n F dX3_readyInOrder_12 rfl (by decide) (by decide), ?_⟩
  refine List.forall_mem_cons.mpr ⟨ok_iconst F dX3_readyInOrder_13 (by decide) (by decide), ?_⟩
  refine List.forall_mem_cons.mpr ⟨ok_istore_n F dX3_readyInOrder_14 rfl (by decide) (by decide), ?_⟩
  refine List.forall_mem_cons.mpr ⟨ok_iload_n F dX3_readyInOrder_15 rfl (by decide), ?_⟩
  refine List.forall_mem_cons.mpr ⟨ok_aload_n F dX3_readyInOrder_16 rfl (by decide), ?_⟩
  refine List.forall_mem_cons.mpr ⟨ok_getf F flX3_47 dX3_readyInOrder_17 (by decide), ?_⟩
  refine List.forall_mem_cons.mpr ⟨ok_icmp_ge F dX3_readyInOrder_20 (by decide) (by decide) (by decide), ?_⟩
  refine List.forall_mem_cons.mpr ⟨ok_aload_n F dX3_readyInOrder_23 rfl (by decide), ?_⟩
  refine List.forall_mem_cons.mpr ⟨ok_iload_n F dX3_readyInOrder_24 rfl (by decide), ?_⟩
  refine List.forall_mem_cons.mpr ⟨ok_callV F spok_X3_isReady (ln_id pW) rcv_pW (by decide +kernel) (by decide) dX3_readyInOrder_25 (by decide), ?_⟩
  refine List.forall_mem_cons.mpr ⟨ok_if_eq F dX3_readyInOrder_28 (by decide) (by decide) (by decide), ?_⟩
  refine List.forall_mem_cons.mpr ⟨ok_aload_n F dX3_readyInOrder_31 rfl (by decide), ?_⟩
  refine List.forall_mem_cons.mpr ⟨ok_iload_n F dX3_readyInOrder_32 rfl (by decide), ?_⟩
  refine List.forall_mem_cons.mpr ⟨ok_iload_n F dX3_readyInOrder_33 rfl (by decide), ?_⟩
  refine List.forall_mem_cons.mpr ⟨ok_callV F spok_X3_readyAhead (ln_id pW) rcv_pW (by decide +kernel) (by decide) dX3_readyInOrder_34 (by decide), ?_⟩
  refine List.forall_mem_cons.mpr ⟨ok_iload_n F dX3_readyInOrder_37 rfl (by decide), ?_⟩
  refine List.forall_mem_cons.mpr ⟨ok_icmp_ne F dX3_readyInOrder_38 (by decide) (by decide) (by decide), ?_⟩
  refine List.forall_mem_cons.mpr ⟨ok_iload_n F dX3_readyInOrder_41 rfl (by decide), ?_⟩
  refine List.forall_mem_cons.mpr ⟨ok_iret F G dX3_readyInOrder_42 (by decide), ?_⟩
  refine List.forall_mem_cons.mpr ⟨ok_iinc F dX3_readyInOrder_43 (by decide) (by decide) (by decide), ?_⟩
  refine List.forall_mem_cons.mpr ⟨ok_goto F dX3_readyInOrder_46 (by decide) (by decide) (by decide), ?_⟩
  refine List.forall_mem_cons.mpr ⟨ok_iconst F dX3_readyInOrder_49 (by decide) (by decide), ?_⟩
  refine List.forall_mem_cons.mpr ⟨ok_iret F G dX3_readyInOrder_50 (by decide), ?_⟩
  exact fun _ h => absurd h List.not_mem_nil
set_option maxRecDepth 100000 in
theorem w_X3_readyInOrder : (∀ (K : Kt PT) (n : Nat) (L : xL) (st : List Value) (S : PT), nx cod_X3_readyInOrder cut_X3_readyInOrder K (n + 1) 0 L st S = (O_aload 0 1) (nx cod_X3_readyInOrder cut_X3_readyInOrder K n) 0 L st S) ∧
  (∀ (K : Kt PT) (n : Nat) (L : xL) (st : List Value) (S : PT), nx cod_X3_readyInOrder cut_X3_readyInOrder K (n + 1) 1 L st S = (O_callV 0 0 (fun S => S) (fun _ S' => S') sp_X3_running) (nx cod_X3_readyInOrder cut_X3_readyInOrder K n) 1 L st S) ∧
  (∀ (K : Kt PT) (n : Nat) (L : xL) (st : List Value) (S : PT), nx cod_X3_readyInOrder cut_X3_readyInOrder K (n + 1) 4 L st S = (O_if_ne 11) (nx cod_X3_readyInOrder cut_X3_readyInOrder K n) 4 L st S) ∧
  (∀ (K : Kt PT) (n : Nat) (L : xL) (st : List Value) (S : PT), nx cod_X3_readyInOrder cut_X3_readyInOrder K (n + 1) 7 L st S = (O_int 1 1) (nx cod_X3_readyInOrder cut_X3_readyInOrder K n) 7 L st S) ∧
  (∀ (K : Kt PT) (n : Nat) (L : xL) (st : List Value) (S : PT), nx cod_X3_readyInOrder cut_X3_readyInOrder K (n + 1) 8 L st S = (O_goto 12) (nx cod_X3_readyInOrder cut_X3_readyInOrder K n) 8 L st S) ∧
  (∀ (K : Kt PT) (n : Nat) (L : xL) (st : List Value) (S : PT), nx cod_X3_readyInOrder cut_X3_readyInOrder K (n + 1) 11 L st S = (O_int 0 1) (nx cod_X3_readyInOrder cut_X3_readyInOrder K n) 11 L st S) ∧
  (∀ (K : Kt PT) (n : Nat) (L : xL) (st : List Value) (S : PT), nx cod_X3_readyInOrder cut_X3_readyInOrder K (n + 1) 12 L st S = (O_istore 2 1) (nx cod_X3_readyInOrder cut_X3_readyInOrder K n) 12 L st S) ∧
  (∀ (K : Kt PT) (n : Nat) (L : xL) (st : List Value) (S : PT), nx cod_X3_readyInOrder cut_X3_readyInOrder K (n + 1) 13 L st S = (O_int 0 1) (nx cod_X3_readyInOrder cut_X3_readyInOrder K n) 13 L st S) ∧
  (∀ (K : Kt PT) (n : Nat) (L : xL) (st : List Value) (S : PT), nx cod_X3_readyInOrder cut_X3_readyInOrder K (n + 1) 14 L st S = (O_istore 3 1) (nx cod_X3_readyInOrder cut_X3_readyInOrder K n) 14 L st S) ∧
  (∀ (K : Kt PT) (n : Nat) (L : xL) (st : List Value) (S : PT), nx cod_X3_readyInOrder cut_X3_readyInOrder K (n + 1) 15 L st S = K 15 L st S) ∧
  (∀ (K : Kt PT) (n : Nat) (L : xL) (st : List Value) (S : PT), nx1 cod_X3_readyInOrder cut_X3_readyInOrder K n 15 L st S = (O_iload 3 1) (nx cod_X3_readyInOrder cut_X3_readyInOrder K n) 15 L st S) ∧
  (∀ (K : Kt PT) (n : Nat) (L : xL) (st : List Value) (S : PT), nx cod_X3_readyInOrder cut_X3_readyInOrder K (n + 1) 16 L st S = (O_aload 0 1) (nx cod_X3_readyInOrder cut_X3_readyInOrder K n) 16 L st S) ∧
  (∀ (K : Kt PT) (n : Nat) (L : xL) (st : List Value) (S : PT), nx cod_X3_readyInOrder cut_X3_readyInOrder K (n + 1) 17 L st S = (O_getf pW 3 8) (nx cod_X3_readyInOrder cut_X3_readyInOrder K n) 17 L st S) ∧
  (∀ (K : Kt PT) (n : Nat) (L : xL) (st : List Value) (S : PT), nx cod_X3_readyInOrder cut_X3_readyInOrder K (n + 1) 20 L st S = (O_icmp_ge 49) (nx cod_X3_readyInOrder cut_X3_readyInOrder K n) 20 L st S) ∧
  (∀ (K : Kt PT) (n : Nat) (L : xL) (st : List Value) (S : PT), nx cod_X3_readyInOrder cut_X3_readyInOrder K (n + 1) 23 L st S = (O_aload 0 1) (nx cod_X3_readyInOrder cut_X3_readyInOrder K n) 23 L st S) ∧
  (∀ (K : Kt PT) (n : Nat) (L : xL) (st : List Value) (S : PT), nx cod_X3_readyInOrder cut_X3_readyInOrder K (n + 1) 24 L st S = (O_iload 3 1) (nx cod_X3_readyInOrder cut_X3_readyInOrder K n) 24 L st S) ∧
  (∀ (K : Kt PT) (n : Nat) (L : xL) (st : List Value) (S : PT), nx cod_X3_readyInOrder cut_X3_readyInOrder K (n + 1) 25 L st S = (O_callV 1 0 (fun S => S) (fun _ S' => S') sp_X3_isReady) (nx cod_X3_readyInOrder cut_X3_readyInOrder K n) 25 L st S) ∧
  (∀ (K : Kt PT) (n : Nat) (L : xL) (st : List Value) (S : PT), nx cod_X3_readyInOrder cut_X3_readyInOrder K (n + 1) 28 L st S = (O_if_eq 43) (nx cod_X3_readyInOrder cut_X3_readyInOrder K n) 28 L st S) ∧
  (∀ (K : Kt PT) (n : Nat) (L : xL) (st : List Value) (S : PT), nx cod_X3_readyInOrder cut_X3_readyInOrder K (n + 1) 31 L st S = (O_aload 0 1) (nx cod_X3_readyInOrder cut_X3_readyInOrder K n) 31 L st S) ∧
  (∀ (K : Kt PT) (n : Nat) (L : xL) (st : List Value) (S : PT), nx cod_X3_readyInOrder cut_X3_readyInOrder K (n + 1) 32 L st S = (O_iload 3 1) (nx cod_X3_readyInOrder cut_X3_readyInOrder K n) 32 L st S) ∧
  (∀ (K : Kt PT) (n : Nat) (L : xL) (st : List Value) (S : PT), nx cod_X3_readyInOrder cut_X3_readyInOrder K (n + 1) 33 L st S = (O_iload 2 1) (nx cod_X3_readyInOrder cut_X3_readyInOrder K n) 33 L st S) ∧
  (∀ (K : Kt PT) (n : Nat) (L : xL) (st : List Value) (S : PT), nx cod_X3_readyInOrder cut_X3_readyInOrder K (n + 1) 34 L st S = (O_callV 2 0 (fun S => S) (fun _ S' => S') sp_X3_readyAhead) (nx cod_X3_readyInOrder cut_X3_readyInOrder K n) 34 L st S) ∧
  (∀ (K : Kt PT) (n : Nat) (L : xL) (st : List Value) (S : PT), nx cod_X3_readyInOrder cut_X3_readyInOrder K (n + 1) 37 L st S = (O_iload 1 1) (nx cod_X3_readyInOrder cut_X3_readyInOrder K n) 37 L st S) ∧
  (∀ (K : Kt PT) (n : Nat) (L : xL) (st : List Value) (S : PT), nx cod_X3_readyInOrder cut_X3_readyInOrder K (n + 1) 38 L st S = (O_icmp_ne 43) (nx cod_X3_readyInOrder cut_X3_readyInOrder K n) 38 L st S) ∧
  (∀ (K : Kt PT) (n : Nat) (L : xL) (st : List Value) (S : PT), nx cod_X3_readyInOrder cut_X3_readyInOrder K (n + 1) 41 L st S = (O_iload 3 1) (nx cod_X3_readyInOrder cut_X3_readyInOrder K n) 41 L st S) ∧
  (∀ (K : Kt PT) (n : Nat) (L : xL) (st : List Value) (S : PT), nx cod_X3_readyInOrder cut_X3_readyInOrder K (n + 1) 42 L st S = (O_iret) (nx cod_X3_readyInOrder cut_X3_readyInOrder K n) 42 L st S) ∧
  (∀ (K : Kt PT) (n : Nat) (L : xL) (st : List Value) (S : PT), nx cod_X3_readyInOrder cut_X3_readyInOrder K (n + 1) 43 L st S = (O_iinc 3 1) (nx cod_X3_readyInOrder cut_X3_readyInOrder K n) 43 L st S) ∧
  (∀ (K : Kt PT) (n : Nat) (L : xL) (st : List Value) (S : PT), nx cod_X3_readyInOrder cut_X3_readyInOrder K (n + 1) 46 L st S = (O_goto 15) (nx cod_X3_readyInOrder cut_X3_readyInOrder K n) 46 L st S) ∧
  (∀ (K : Kt PT) (n : Nat) (L : xL) (st : List Value) (S : PT), nx cod_X3_readyInOrder cut_X3_readyInOrder K (n + 1) 49 L st S = (O_int (-1) 1) (nx cod_X3_readyInOrder cut_X3_readyInOrder K n) 49 L st S) ∧
  (∀ (K : Kt PT) (n : Nat) (L : xL) (st : List Value) (S : PT), nx cod_X3_readyInOrder cut_X3_readyInOrder K (n + 1) 50 L st S = (O_iret) (nx cod_X3_readyInOrder cut_X3_readyInOrder K n) 50 L st S) ∧
  (∀ (K : Kt PT) (n : Nat) (L : xL) (st : List Value) (S : PT), nx cod_X3_readyInOrder cut_X3_readyInOrder K (n + 1) 100000 L st S = K 100000 L st S) := by
  repeat' apply And.intro
  all_goals (intros; rfl)
set_option maxRecDepth 100000 in
theorem mk_X3_readyInOrder {P P' : PT} {r : Option Value} {p0 : Int32} (body : ∀ E : En, CodOk E pW cod_X3_readyInOrder → Gd E pW 100000 [] r.toList P' → Gd E pW 0 [some (.ref 0), some (.int p0), none, none] [] P) : Con yX3_readyInOrder cX3_readyInOrder 4 (some .int) 2 pW [.ref 0, .int p0] P r P' :=
  Con.of (by decide) rfl rfl (Nat.le_of_ble_eq_true rfl) (fun E F G hr => body E (okc_X3_readyInOrder F G) hr)
theorem con_X3_readyInOrder (S : PT) (place : Int32) (hp : S.ok) : Con yX3_readyInOrder cX3_readyInOrder 4 (some .int) 2 pW [.ref 0, .int place] S (some (.int (oI (S.inOrd place)))) (S) := by
  refine mk_X3_readyInOrder (fun E C hr => ?_)
  (refine nx_ok C (cuts := cut_X3_readyInOrder) 1000 _ _ _ _ ?_; simp only [w_X3_readyInOrder, ops_eq, xst_eq, call_eq, oK_eq, Option.toList_some, Option.toList_none, List.cons_append, List.nil_append, List.length_cons, List.length_nil, true_and, and_true, Nat.reduceAdd, pW_F, pW_A, pW_S, pW_P, PT_gs, se_X3_running, se_X3_isReady, se_X3_readyAhead, bI_eq, hp])
  have key : Gd E pW 15 [some (.ref 0), some (.int place), some (.int S.noRun), some (.int (nI 0))] [] S := by
    refine fstN_up (c := fun p => S.rdy p && decide (S.aheadN p S.noRun = place)) (n := S.n) (fun i => Gd E pW 15 [some (.ref 0), some (.int place), some (.int S.noRun), some (.int (nI i))] [] S) (fun p => Gd E pW 100000 [] [.int (nI p)] S) (fun i hi h1 h2 => ?_) (fun p h => ?_) (fun h => ?_)
    · have hx := ixs hp hi
      (refine nx1_ok C cut_X3_readyInOrder 1000 ?_; simp only [w_X3_readyInOrder, ops_eq, xst_eq, call_eq, oK_eq, Option.toList_some, Option.toList_none, List.cons_append, List.nil_append, List.length_cons, List.length_nil, true_and, and_true, Nat.reduceAdd, pW_F, pW_A, pW_S, pW_P, PT_gs, se_X3_running, se_X3_isReady, se_X3_readyAhead, hx, hp, bI_eq])
      ((repeat' (with_reducible first | apply And.intro | intro _)) <;> simp_all [PT_gs])
    · simpa [PT.inOrd, h, oI] using hr
    · have hx := ixe hp
      (refine nx1_ok C cut_X3_readyInOrder 1000 ?_; simp only [w_X3_readyInOrder, ops_eq, xst_eq, call_eq, oK_eq, Option.toList_some, Option.toList_none, List.cons_append, List.nil_append, List.length_cons, List.length_nil, true_and, and_true, Nat.reduceAdd, pW_F, pW_A, pW_S, pW_P, PT_gs, se_X3_running, se_X3_isReady, se_X3_readyAhead, hx])
      simp only [PT.inOrd, h, oI] at hr
      ((repeat' (with_reducible first | apply And.intro | intro _)) <;> simp_all [PT_gs])
  ((repeat' (with_reducible first | apply And.intro | intro _)) <;> simp_all [PT.noRun, bI, nI_0, PT_gs])
def sp_X3_readyInOrder : Sp PT := fun av S K => match av with
  | [.ref 0, .int place] => (S.ok) ∧ K (some (.int (oI (S.inOrd place)))) (S)
  | _ => False
theorem se_X3_readyInOrder (place : Int32) (S : PT) (K : Option Value → PT → Prop) : sp_X3_readyInOrder [.ref 0, .int place] S K = ((S.ok) ∧ K (some (.int (oI (S.inOrd place)))) (S)) := rfl
theorem spok_X3_readyInOrder : SpOk yX3_readyInOrder cX3_readyInOrder 4 (some .int) 2 pW sp_X3_readyInOrder := by
  intro av S K h
  unfold sp_X3_readyInOrder at h
  split at h
  · rename_i place; exact ⟨some (.int (oI (S.inOrd place))), S, trivial, con_X3_readyInOrder S place h.1, h.2⟩
  · exact h.elim
def PT.start (S : PT) (p speed : Int32) : PT :=
  if S.has p = false then S else
  let S1 := (S.sStarts (upd S.starts p.toNatClampNeg (S.starts p.toNatClampNeg + 1))).sSpeeds (upd S.speeds p.toNatClampNeg 1000)
  if S.kinds p.toNatClampNeg = 0 then S1 else
  let S2 := if S.has S.vrb then S1.sSpeeds (upd S1.speeds S.vrb.toNatClampNeg 1000) else S1
  (S2.sVrb p).sSpeeds (upd S2.speeds p.toNatClampNeg speed)
theorem flX3_34 : fldOk RX3 34 3 7 = true := by decide +kernel
def cod_X3_start : List (Nat × Op PT) := [(0, O_aload 0 1), (1, O_iload 1 1), (2, O_callV 1 0 (fun S => S) (fun _ S' => S') sp_X3_has), (5, O_if_ne 9), (8, O_vret), (9, O_aload 0 1), (10, O_getf pW 3 7), (13, O_iload 1 1), (14, O_dup2), (15, O_ald pW 0), (16, O_int 1 1), (17, O_iadd), (18, O_ast pW 0 pW_sa), (19, O_aload 0 1), (20, O_getf pW 3 4), (23, O_iload 1 1), (24, O_int 1000 3), (27, O_ast pW 0 pW_sa), (28, O_aload 0 1), (29, O_getf pW 3 0), (32, O_iload 1 1), (33, O_ald pW 0), (34, O_if_ne 38), (37, O_vret), (38, O_aload 0 1), (39, O_aload 0 1), (40, O_getf pW 3 9), (43, O_callV 1 0 (fun S => S) (fun _ S' => S') sp_X3_has), (46, O_if_eq 61), (49, O_aload 0 1), (50, O_getf pW 3 4), (53, O_aload 0 1), (54, O_getf pW 3 9), (57, O_int 1000 3), (60, O_ast pW 0 pW_sa), (61, O_aload 0 1), (62, O_iload 1 1), (63, O_puti pW_p3_9), (66, O_aload 0 1), (67, O_getf pW 3 4), (70, O_iload 1 1), (71, O_iload 2 1), (72, O_ast pW 0 pW_sa), (73, O_vret)]
abbrev cut_X3_start : List Nat := []
set_option maxRecDepth 100000 in
theorem okc_X3_start {E : En} (F : Fx E RX3 cX3_start 3 1) (G : Fr E none) : CodOk E pW cod_X3_start := by
  unfold CodOk cod_X3_start
  refine List.forall_mem_cons.mpr ⟨ok_aload_n F dX3_start_0 rfl (by decide), ?_⟩
  refine List.forall_mem_cons.mpr ⟨ok_iload_n F dX3_start_1 rfl (by decide), ?_⟩
  refine List.forall_mem_cons.mpr ⟨ok_callV F spok_X3_has (ln_id pW) rcv_pW (by decide +kernel) (by decide) dX3_start_2 (by decide), ?_⟩
  refine List.forall_mem_cons.mpr ⟨ok_if_ne F dX3_start_5 (by decide) (by decide) (by decide), ?_⟩
  refine List.forall_mem_cons.mpr ⟨ok_vret F G dX3_start_8 (by decide), ?_⟩
  refine List.forall_mem_cons.mpr ⟨ok_aload_n F dX3_start_9 rfl (by decide), ?_⟩
  refine List.forall_mem_cons.mpr ⟨ok_getf F flX3_34 dX3_start_10 (by decide), ?_⟩
  refine List.forall_mem_cons.mpr ⟨ok_iload_n F dX3_start_13 rfl (by decide), ?_⟩
  refine List.forall_mem_cons.mpr ⟨ok_dup2 F dX3_start_14 (by decide), ?_⟩
  refine List.forall_mem_cons.mpr ⟨ok_iald F dX3_start_15 (by decide), ?_⟩
  refine List.forall_mem_cons.mpr ⟨ok_iconst F dX3_start_16 (by decide) (by decide), ?_⟩
  refine List.forall_mem_cons.mpr ⟨ok_iadd F dX3_start_17 (by decide), ?_⟩
  refine List.forall_mem_cons.mpr ⟨ok_iast F pW_sar dX3_start_18 (by decide), ?_⟩
  refine List.forall_mem_cons.mpr ⟨ok_aload_n F dX3_start_19 rfl (by decide), ?_⟩
  refine List.forall_mem_cons.mpr ⟨ok_getf F flX3_25 dX3_start_20 (by decide), ?_⟩
  refine List.forall_mem_cons.mpr ⟨ok_iload_n F dX3_start_23 rfl (by decide), ?_⟩
  refine List.forall_mem_cons.mpr ⟨ok_sipush F dX3_start_24 (by decide) (by decide), ?_⟩
  refine List.forall_mem_cons.mpr ⟨ok_iast F pW_sar dX3_start_27 (by decide), ?_⟩
  refine List.forall_mem_cons.mpr ⟨ok_aload_n F dX3_start_28 rfl (by decide), ?_⟩
  refine List.forall_mem_cons.mpr ⟨ok_getf F flX3_11 dX3_start_29 (by decide), ?_⟩
  refine List.forall_mem_cons.mpr ⟨ok_iload_n F dX3_start_32 rfl (by decide), ?_⟩
  refine List.forall_mem_cons.mpr ⟨ok_iald F dX3_start_33 (by decide), ?_⟩
  refine List.forall_mem_cons.mpr ⟨ok_if_ne F dX3_start_34 (by decide) (by decide) (by decide), ?_⟩
  refine List.forall_mem_cons.mpr ⟨ok_vret F G dX3_start_37 (by decide), ?_⟩
  refine List.forall_mem_cons.mpr ⟨ok_aload_n F dX3_start_38 rfl (by decide), ?_⟩
  refine List.forall_mem_cons.mpr ⟨ok_aload_n F dX3_start_39 rfl (by decide), ?_⟩
  refine List.forall_mem_cons.mpr ⟨ok_getf F flX3_37 dX3_start_40 (by decide), ?_⟩
  refine List.forall_mem_cons.mpr ⟨ok_callV F spok_X3_has (ln_id pW) rcv_pW (by decide +kernel) (by decide) dX3_start_43 (by decide), ?_⟩
  refine List.forall_mem_cons.mpr ⟨ok_if_eq F dX3_start_46 (by decide) (by decide) (by decide), ?_⟩
  refine List.forall_mem_cons.mpr ⟨ok_aload_n F dX3_start_49 rfl (by decide), ?_⟩
  refine List.forall_mem_cons.mpr ⟨ok_getf F flX3_25 dX3_start_50 (by decide), ?_⟩
  refine List.forall_mem_cons.mpr ⟨ok_aload_n F dX3_start_53 rfl (by decide), ?_⟩
  refine List.forall_mem_cons.mpr ⟨ok_getf F flX3_37 dX3_start_54 (by decide), ?_⟩
  refine List.forall_mem_cons.mpr ⟨ok_sipush F dX3_start_57 (by decide) (by decide), ?_⟩
  refine List.forall_mem_cons.mpr ⟨ok_iast F pW_sar dX3_start_60 (by decide), ?_⟩
  refine List.forall_mem_cons.mpr ⟨ok_aload_n F dX3_start_61 rfl (by decide), ?_⟩
  refine List.forall_mem_cons.mpr ⟨ok_iload_n F dX3_start_62 rfl (by decide), ?_⟩
  refine List.forall_mem_cons.mpr ⟨ok_puti F pW_p3_9_ok (fun _ _ _ h => by cases h; rfl) rfl flX3_37 dX3_start_63 (by decide), ?_⟩
  refine List.forall_mem_cons.mpr ⟨ok_aload_n F dX3_start_66 rfl (by decide), ?_⟩
  refine List.forall_mem_cons.mpr ⟨ok_getf F flX3_25 dX3_start_67 (by decide), ?_⟩
  refine List.forall_mem_cons.mpr ⟨ok_iload_n F dX3_start_70 rfl (by decide), ?_⟩
  refine List.forall_mem_cons.mpr ⟨ok_iload_n F dX3_start_71 rfl (by decide), ?_⟩
  refine List.forall_mem_cons.mpr ⟨ok_iast F pW_sar dX3_start_72 (by decide), ?_⟩
  refine List.forall_mem_cons.mpr ⟨ok_vret F G dX3_start_73 (by decide), ?_⟩
  exact fun _ h => absurd h List.not_mem_nil
set_option maxRecDepth 100000 in
theorem w_X3_start : (∀ (K : Kt PT) (n : Nat) (L : xL) (st : List Value) (S : PT), nx cod_X3_start cut_X3_start K (n + 1) 0 L st S = (O_aload 0 1) (nx cod_X3_start cut_X3_start K n) 0 L st S) ∧
  (∀ (K : Kt PT) (n : Nat) (L : xL) (st : List Value) (S : PT), nx cod_X3_start cut_X3_start K (n + 1) 1 L st S = (O_iload 1 1) (nx cod_X3_start cut_X3_start K n) 1 L st S) ∧
  (∀ (K : Kt PT) (n : Nat) (L : xL) (st : List Value) (S : PT), nx cod_X3_start cut_X3_start K (n + 1) 2 L st S = (O_callV 1 0 (fun S => S) (fun _ S' => S') sp_X3_has) (nx cod_X3_start cut_X3_start K n) 2 L st S) ∧
  (∀ (K : Kt PT) (n : Nat) (L : xL) (st : List Value) (S : PT), nx cod_X3_start cut_X3_start K (n + 1) 5 L st S = (O_if_ne 9) (nx cod_X3_start cut_X3_start K n) 5 L st S) ∧
  (∀ (K : Kt PT) (n : Nat) (L : xL) (st : List Value) (S : PT), nx cod_X3_start cut_X3_start K (n + 1) 8 L st S = (O_vret) (nx cod_X3_start cut_X3_start K n) 8 L st S) ∧
  (∀ (K : Kt PT) (n : Nat) (L : xL) (st : List Value) (S : PT), nx cod_X3_start cut_X3_start K (n + 1) 9 L st S = (O_aload 0 1) (nx cod_X3_start cut_X3_start K n) 9 L st S) ∧
  (∀ (K : Kt PT) (n : Nat) (L : xL) (st : List Value) (S : PT), nx cod_X3_start cut_X3_start K (n + 1) 10 L st S = (O_getf pW 3 7) (nx cod_X3_start cut_X3_start K n) 10 L st S) ∧
  (∀ (K : Kt PT) (n : Nat) (L : xL) (st : List Value) (S : PT), nx cod_X3_start cut_X3_start K (n + 1) 13 L st S = (O_iload 1 1) (nx cod_X3_start cut_X3_start K n) 13 L st S) ∧
  (∀ (K : Kt PT) (n : Nat) (L : xL) (st : List Value) (S : PT), nx cod_X3_start cut_X3_start K (n + 1) 14 L st S = (O_dup2) (nx cod_X3_start cut_X3_start K n) 14 L st S) ∧
  (∀ (K : Kt PT) (n : Nat) (L : xL) (st : List Value) (S : PT), nx cod_X3_start cut_X3_start K (n + 1) 15 L st S = (O_ald pW 0) (nx cod_X3_start cut_X3_start K n) 15 L st S) ∧
  (∀ (K : Kt PT) (n : Nat) (L : xL) (st : List Value) (S : PT), nx cod_X3_start cut_X3_start K (n + 1) 16 L st S = (O_int 1 1) (nx cod_X3_start cut_X3_start K n) 16 L st S) ∧
  (∀ (K : Kt PT) (n : Nat) (L : xL) (st : List Value) (S : PT), nx cod_X3_start cut_X3_start K (n + 1) 17 L st S = (O_iadd) (nx cod_X3_start cut_X3_start K n) 17 L st S) ∧
  (∀ (K : Kt PT) (n : Nat) (L : xL) (st : List Value) (S : PT), nx cod_X3_start cut_X3_start K (n + 1) 18 L st S = (O_ast pW 0 pW_sa) (nx cod_X3_start cut_X3_start K n) 18 L st S) ∧
  (∀ (K : Kt PT) (n : Nat) (L : xL) (st : List Value) (S : PT), nx cod_X3_start cut_X3_start K (n + 1) 19 L st S = (O_aload 0 1) (nx cod_X3_start cut_X3_start K n) 19 L st S) ∧
  (∀ (K : Kt PT) (n : Nat) (L : xL) (st : List Value) (S : PT), nx cod_X3_start cut_X3_start K (n + 1) 20 L st S = (O_getf pW 3 4) (nx cod_X3_start cut_X3_start K n) 20 L st S) ∧
  (∀ (K : Kt PT) (n : Nat) (L : xL) (st : List Value) (S : PT), nx cod_X3_start cut_X3_start K (n + 1) 23 L st S = (O_iload 1 1) (nx cod_X3_start cut_X3_start K n) 23 L st S) ∧
  (∀ (K : Kt PT) (n : Nat) (L : xL) (st : List Value) (S : PT), nx cod_X3_start cut_X3_start K (n + 1) 24 L st S = (O_int 1000 3) (nx cod_X3_start cut_X3_start K n) 24 L st S) ∧
  (∀ (K : Kt PT) (n : Nat) (L : xL) (st : List Value) (S : PT), nx cod_X3_start cut_X3_start K (n + 1) 27 L st S = (O_ast pW 0 pW_sa) (nx cod_X3_start cut_X3_start K n) 27 L st S) ∧
  (∀ (K : Kt PT) (n : Nat) (L : xL) (st : List Value) (S : PT), nx cod_X3_start cut_X3_start K (n + 1) 28 L st S = (O_aload 0 1) (nx cod_X3_start cut_X3_start K n) 28 L st S) ∧
  (∀ (K : Kt PT) (n : Nat) (L : xL) (st : List Value) (S : PT), nx cod_X3_start cut_X3_start K (n + 1) 29 L st S = (O_getf pW 3 0) (nx cod_X3_start cut_X3_start K n) 29 L st S) ∧
  (∀ (K : Kt PT) (n : Nat) (L : xL) (st : List Value) (S : PT), nx cod_X3_start cut_X3_start K (n + 1) 32 L st S = (O_iload 1 1) (nx cod_X3_start cut_X3_start K n) 32 L st S) ∧
  (∀ (K : Kt PT) (n : Nat) (L : xL) (st : List Value) (S : PT), nx cod_X3_start cut_X3_start K (n + 1) 33 L st S = (O_ald pW 0) (nx cod_X3_start cut_X3_start K n) 33 L st S) ∧
  (∀ (K : Kt PT) (n : Nat) (L : xL) (st : List Value) (S : PT), nx cod_X3_start cut_X3_start K (n + 1) 34 L st S = (O_if_ne 38) (nx cod_X3_start cut_X3_start K n) 34 L st S) ∧
  (∀ (K : Kt PT) (n : Nat) (L : xL) (st : List Value) (S : PT), nx cod_X3_start cut_X3_start K (n + 1) 37 L st S = (O_vret) (nx cod_X3_start cut_X3_start K n) 37 L st S) ∧
  (∀ (K : Kt PT) (n : Nat) (L : xL) (st : List Value) (S : PT), nx cod_X3_start cut_X3_start K (n + 1) 38 L st S = (O_aload 0 1) (nx cod_X3_start cut_X3_start K n) 38 L st S) ∧
  (∀ (K : Kt PT) (n : Nat) (L : xL) (st : List Value) (S : PT), nx cod_X3_start cut_X3_start K (n + 1) 39 L st S = (O_aload 0 1) (nx cod_X3_start cut_X3_start K n) 39 L st S) ∧
  (∀ (K : Kt PT) (n : Nat) (L : xL) (st : List Value) (S : PT), nx cod_X3_start cut_X3_start K (n + 1) 40 L st S = (O_getf pW 3 9) (nx cod_X3_start cut_X3_start K n) 40 L st S) ∧
  (∀ (K : Kt PT) (n : Nat) (L : xL) (st : List Value) (S : PT), nx cod_X3_start cut_X3_start K (n + 1) 43 L st S = (O_callV 1 0 (fun S => S) (fun _ S' => S') sp_X3_has) (nx cod_X3_start cut_X3_start K n) 43 L st S) ∧
  (∀ (K : Kt PT) (n : Nat) (L : xL) (st : List Value) (S : PT), nx cod_X3_start cut_X3_start K (n + 1) 46 L st S = (O_if_eq 61) (nx cod_X3_start cut_X3_start K n) 46 L st S) ∧
  (∀ (K : Kt PT) (n : Nat) (L : xL) (st : List Value) (S : PT), nx cod_X3_start cut_X3_start K (n + 1) 49 L st S = (O_aload 0 1) (nx cod_X3_start cut_X3_start K n) 49 L st S) ∧
  (∀ (K : Kt PT) (n : Nat) (L : xL) (st : List Value) (S : PT), nx cod_X3_start cut_X3_start K (n + 1) 50 L st S = (O_getf pW 3 4) (nx cod_X3_start cut_X3_start K n) 50 L st S) ∧
  (∀ (K : Kt PT) (n : Nat) (L : xL) (st : List Value) (S : PT), nx cod_X3_start cut_X3_start K (n + 1) 53 L st S = (O_aload 0 1) (nx cod_X3_start cut_X3_start K n) 53 L st S) ∧
  (∀ (K : Kt PT) (n : Nat) (L : xL) (st : List Value) (S : PT), nx cod_X3_start cut_X3_start K (n + 1) 54 L st S = (O_getf pW 3 9) (nx cod_X3_start cut_X3_start K n) 54 L st S) ∧
  (∀ (K : Kt PT) (n : Nat) (L : xL) (st : List Value) (S : PT), nx cod_X3_start cut_X3_start K (n + 1) 57 L st S = (O_int 1000 3) (nx cod_X3_start cut_X3_start K n) 57 L st S) ∧
  (∀ (K : Kt PT) (n : Nat) (L : xL) (st : List Value) (S : PT), nx cod_X3_start cut_X3_start K (n + 1) 60 L st S = (O_ast pW 0 pW_sa) (nx cod_X3_start cut_X3_start K n) 60 L st S) ∧
  (∀ (K : Kt PT) (n : Nat) (L : xL) (st : List Value) (S : PT), nx cod_X3_start cut_X3_start K (n + 1) 61 L st S = (O_aload 0 1) (nx cod_X3_start cut_X3_start K n) 61 L st S) ∧
  (∀ (K : Kt PT) (n : Nat) (L : xL) (st : List Value) (S : PT), nx cod_X3_start cut_X3_start K (n + 1) 62 L st S = (O_iload 1 1) (nx cod_X3_start cut_X3_start K n) 62 L st S) ∧
  (∀ (K : Kt PT) (n : Nat) (L : xL) (st : List Value) (S : PT), nx cod_X3_start cut_X3_start K (n + 1) 63 L st S = (O_puti pW_p3_9) (nx cod_X3_start cut_X3_start K n) 63 L st S) ∧
  (∀ (K : Kt PT) (n : Nat) (L : xL) (st : List Value) (S : PT), nx cod_X3_start cut_X3_start K (n + 1) 66 L st S = (O_aload 0 1) (nx cod_X3_start cut_X3_start K n) 66 L st S) ∧
  (∀ (K : Kt PT) (n : Nat) (L : xL) (st : List Value) (S : PT), nx cod_X3_start cut_X3_start K (n + 1) 67 L st S = (O_getf pW 3 4) (nx cod_X3_start cut_X3_start K n) 67 L st S) ∧
  (∀ (K : Kt PT) (n : Nat) (L : xL) (st : List Value) (S : PT), nx cod_X3_start cut_X3_start K (n + 1) 70 L st S = (O_iload 1 1) (nx cod_X3_start cut_X3_start K n) 70 L st S) ∧
  (∀ (K : Kt PT) (n : Nat) (L : xL) (st : List Value) (S : PT), nx cod_X3_start cut_X3_start K (n + 1) 71 L st S = (O_iload 2 1) (nx cod_X3_start cut_X3_start K n) 71 L st S) ∧
  (∀ (K : Kt PT) (n : Nat) (L : xL) (st : List Value) (S : PT), nx cod_X3_start cut_X3_start K (n + 1) 72 L st S = (O_ast pW 0 pW_sa) (nx cod_X3_start cut_X3_start K n) 72 L st S) ∧
  (∀ (K : Kt PT) (n : Nat) (L : xL) (st : List Value) (S : PT), nx cod_X3_start cut_X3_start K (n + 1) 73 L st S = (O_vret) (nx cod_X3_start cut_X3_start K n) 73 L st S) ∧
  (∀ (K : Kt PT) (n : Nat) (L : xL) (st : List Value) (S : PT), nx cod_X3_start cut_X3_start K (n + 1) 100000 L st S = K 100000 L st S) := by
  repeat' apply And.intro
  all_goals (intros; rfl)
set_option maxRecDepth 100000 in
theorem mk_X3_start {P P' : PT} {r : Option Value} {p0 : Int32} {p1 : Int32} (body : ∀ E : En, CodOk E pW cod_X3_start → Gd E pW 100000 [] r.toList P' → Gd E pW 0 [some (.ref 0), some (.int p0), some (.int p1)] [] P) : Con yX3_start cX3_start 3 none 1 pW [.ref 0, .int p0, .int p1] P r P' :=
  Con.of (by decide) rfl rfl (Nat.le_of_ble_eq_true rfl) (fun E F G hr => body E (okc_X3_start F G) hr)
theorem con_X3_start (S : PT) (p : Int32) (speed : Int32) (hp : S.ok) : Con yX3_start cX3_start 3 none 1 pW [.ref 0, .int p, .int speed] S (none) (S.start p speed) := by
  refine mk_X3_start (fun E C hr => ?_)
  have hv := PT.has_in (p := p) hp
  have hv2 := PT.has_in (p := S.vrb) hp
  (refine nx_ok C (cuts := cut_X3_start) 1000 _ _ _ _ ?_; simp only [w_X3_start, ops_eq, xst_eq, call_eq, oK_eq, Option.toList_some, Option.toList_none, List.cons_append, List.nil_append, List.length_cons, List.length_nil, true_and, and_true, Nat.reduceAdd, pW_F, pW_A, pW_S, pW_P, PT_gs, se_X3_has, bI_eq, PT_has])
  ((repeat' (with_reducible first | apply And.intro | intro _)) <;> simp_all [PT.start, PT_gs])
def sp_X3_start : Sp PT := fun av S K => match av with
  | [.ref 0, .int p, .int speed] => (S.ok) ∧ K (none) (S.start p speed)
  | _ => False
theorem se_X3_start (p : Int32) (speed : Int32) (S : PT) (K : Option Value → PT → Prop) : sp_X3_start [.ref 0, .int p, .int speed] S K = ((S.ok) ∧ K (none) (S.start p speed)) := rfl
theorem spok_X3_start : SpOk yX3_start cX3_start 3 none 1 pW sp_X3_start := by
  intro av S K h
  unfold sp_X3_start at h
  split at h
  · rename_i p speed; exact ⟨none, S.start p speed, trivial, con_X3_start S p speed h.1, h.2⟩
  · exact h.elim
/-- a pump's number, or none -/
def isP (b : Int32) (n : Nat) : Prop := b = -1 ∨ vp_in b n
def PT.nextVar (S : PT) : Int32 := it (fun p b => if S.run p = true ∧ ¬ S.kinds p = 0 ∧ (b = -1 ∨ S.minutes p < S.minutes b.toNatClampNeg) then nI p else b) (-1) S.n
theorem ite_isP {c : Prop} [Decidable c] {i N : Nat} {b : Int32} (hi : vp_in (nI i) N) (hb : isP b N) : isP (if c then nI i else b) N := by
  split
  · exact Or.inr hi
  · exact hb
def cod_X3_nextVariable : List (Nat × Op PT) := [(0, O_int (-1) 1), (1, O_istore 1 1), (2, O_int 0 1), (3, O_istore 2 1), (4, O_iload 2 1), (5, O_aload 0 1), (6, O_getf pW 3 8), (9, O_icmp_ge 58), (12, O_aload 0 1), (13, O_getf pW 3 4), (16, O_iload 2 1), (17, O_ald pW 0), (18, O_if_le 52), (21, O_aload 0 1), (22, O_getf pW 3 0), (25, O_iload 2 1), (26, O_ald pW 0), (27, O_if_eq 52), (30, O_iload 1 1), (31, O_int (-1) 1), (32, O_icmp_eq 50), (35, O_aload 0 1), (36, O_getf pW 3 5), (39, O_iload 2 1), (40, O_ald pW 0), (41, O_aload 0 1), (42, O_getf pW 3 5), (45, O_iload 1 1), (46, O_ald pW 0), (47, O_icmp_ge 52), (50, O_iload 2 1), (51, O_istore 1 1), (52, O_iinc 2 1), (55, O_goto 4), (58, O_iload 1 1), (59, O_iret)]
abbrev cut_X3_nextVariable : List Nat := [4]
set_option maxRecDepth 100000 in
theorem okc_X3_nextVariable {E : En} (F : Fx E RX3 cX3_nextVariable 3 0) (G : Fr E (some .int)) : CodOk E pW cod_X3_nextVariable := by
  unfold CodOk cod_X3_nextVariable
  refine List.forall_mem_cons.mpr ⟨ok_iconst F dX3_nextVariable_0 (by decide) (by decide), ?_⟩
  refine List.forall_mem_cons.mpr ⟨ok_istore_n F dX3_nextVariable_1 rfl (by decide) (by decide), ?_⟩
  refine List.forall_mem_cons.mpr ⟨ok_iconst F dX3_nextVariable_2 (by decide) (by decide), ?_⟩
  refine List.forall_mem_cons.mpr ⟨ok_istore_n F dX3_nextVariable_3 rfl (by decide) (by decide), ?_⟩
  refine List.forall_mem_cons.mpr ⟨ok_iload_n F dX3_nextVariable_4 rfl (by decide), ?_⟩
  refine List.forall_mem_cons.mpr ⟨ok_aload_n F dX3_nextVariable_5 rfl (by decide), ?_⟩
  refine List.forall_mem_cons.mpr ⟨ok_getf F flX3_47 dX3_nextVariable_6 (by decide), ?_⟩
  refine List.forall_mem_cons.mpr ⟨ok_icmp_ge F dX3_nextVariable_9 (by decide) (by decide) (by decide), ?_⟩
  refine List.forall_mem_cons.mpr ⟨ok_aload_n F dX3_nextVariable_12 rfl (by decide), ?_⟩
  refine List.forall_mem_cons.mpr ⟨ok_getf F flX3_25 dX3_nextVariable_13 (by decide), ?_⟩
  refine List.forall_mem_cons.mpr ⟨ok_iload_n F dX3_nextVariable_16 rfl (by decide), ?_⟩
  refine List.forall_mem_cons.mpr ⟨ok_iald F dX3_nextVariable_17 (by decide), ?_⟩
  refine List.forall_mem_cons.mpr ⟨ok_if_le F dX3_nextVariable_18 (by decide) (by decide) (by decide), ?_⟩
  refine List.forall_mem_cons.mpr ⟨ok_aload_n F dX3_nextVariable_21 rfl (by decide), ?_⟩
  refine List.forall_mem_cons.mpr ⟨ok_getf F flX3_11 dX3_nextVariable_22 (by decide), ?_⟩
  refine List.forall_mem_cons.mpr ⟨ok_iload_n F dX3_nextVariable_25 rfl (by decide), ?_⟩
  refine List.forall_mem_cons.mpr ⟨ok_iald F dX3_nextVariable_26 (by decide), ?_⟩
  refine List.forall_mem_cons.mpr ⟨ok_if_eq F dX3_nextVariable_27 (by decide) (by decide) (by decide), ?_⟩
  refine List.forall_mem_cons.mpr ⟨ok_iload_n F dX3_nextVariable_30 rfl (by decide), ?_⟩
  refine List.forall_mem_cons.mpr ⟨ok_iconst F dX3_nextVariable_31 (by decide) (by decide), ?_⟩
  refine List.forall_mem_cons.mpr ⟨ok_icmp_eq F dX3_nextVariable_32 (by decide) (by decide) (by decide), ?_⟩
  refine List.forall_mem_cons.mpr ⟨ok_aload_n F dX3_nextVariable_35 rfl (by decide), ?_⟩
  refine List.forall_mem_cons.mpr ⟨ok_getf F flX3_28 dX3_nextVariable_36 (by decide), ?_⟩
  refine List.forall_mem_cons.mpr ⟨ok_iload_n F dX3_nextVariable_39 rfl (by decide), ?_⟩
  refine List.forall_mem_cons.mpr ⟨ok_iald F dX3_nextVariable_40 (by decide), ?_⟩
  refine List.forall_mem_cons.mpr ⟨ok_aload_n F dX3_nextVariable_41 rfl (by decide), ?_⟩
  refine List.forall_mem_cons.mpr ⟨ok_getf F flX3_28 dX3_nextVariable_42 (by decide), ?_⟩
  refine List.forall_mem_cons.mpr ⟨ok_iload_n F dX3_nextVariable_45 rfl (by decide), ?_⟩
  refine List.forall_mem_cons.mpr ⟨ok_iald F dX3_nextVariable_46 (by decide), ?_⟩
  refine List.forall_mem_cons.mpr ⟨ok_icmp_ge F dX3_nextVariable_47 (by decide) (by decide) (by decide), ?_⟩
  refine List.forall_mem_cons.mpr ⟨ok_iload_n F dX3_nextVariable_50 rfl (by decide), ?_⟩
  refine List.forall_mem_cons.mpr ⟨ok_istore_n F dX3_nextVariable_51 rfl (by decide) (by decide), ?_⟩
  refine List.forall_mem_cons.mpr ⟨ok_iinc F dX3_nextVariable_52 (by decide) (by decide) (by decide), ?_⟩
  refine List.forall_mem_cons.mpr ⟨ok_goto F dX3_nextVariable_55 (by decide) (by decide) (by decide), ?_⟩
  refine List.forall_mem_cons.mpr ⟨ok_iload_n F dX3_nextVariable_58 rfl (by decide), ?_⟩
  refine List.forall_mem_cons.mpr ⟨ok_iret F G dX3_nextVariable_59 (by decide), ?_⟩
  exact fun _ h => absurd h List.not_mem_nil
set_option maxRecDepth 100000 in
theorem w_X3_nextVariable : (∀ (K : Kt PT) (n : Nat) (L : xL) (st : List Value) (S : PT), nx cod_X3_nextVariable cut_X3_nextVariable K (n + 1) 0 L st S = (O_int (-1) 1) (nx cod_X3_nextVariable cut_X3_nextVariable K n) 0 L st S) ∧
  (∀ (K : Kt PT) (n : Nat) (L : xL) (st : List Value) (S : PT), nx cod_X3_nextVariable cut_X3_nextVariable K (n + 1) 1 L st S = (O_istore 1 1) (nx cod_X3_nextVariable cut_X3_nextVariable K n) 1 L st S) ∧
  (∀ (K : Kt PT) (n : Nat) (L : xL) (st : List Value) (S : PT), nx cod_X3_nextVariable cut_X3_nextVariable K (n + 1) 2 L st S = (O_int 0 1) (nx cod_X3_nextVariable cut_X3_nextVariable K n) 2 L st S) ∧
  (∀ (K : Kt PT) (n : Nat) (L : xL) (st : List Value) (S : PT), nx cod_X3_nextVariable cut_X3_nextVariable K (n + 1) 3 L st S = (O_istore 2 1) (nx cod_X3_nextVariable cut_X3_nextVariable K n) 3 L st S) ∧
  (∀ (K : Kt PT) (n : Nat) (L : xL) (st : List Value) (S : PT), nx cod_X3_nextVariable cut_X3_nextVariable K (n + 1) 4 L st S = K 4 L st S) ∧
  (∀ (K : Kt PT) (n : Nat) (L : xL) (st : List Value) (S : PT), nx1 cod_X3_nextVariable cut_X3_nextVariable K n 4 L st S = (O_iload 2 1) (nx cod_X3_nextVariable cut_X3_nextVariable K n) 4 L st S) ∧
  (∀ (K : Kt PT) (n : Nat) (L : xL) (st : List Value) (S : PT), nx cod_X3_nextVariable cut_X3_nextVariable K (n + 1) 5 L st S = (O_aload 0 1) (nx cod_X3_nextVariable cut_X3_nextVariable K n) 5 L st S) ∧
  (∀ (K : Kt PT) (n : Nat) (L : xL) (st : List Value) (S : PT), nx cod_X3_nextVariable cut_X3_nextVariable K (n + 1) 6 L st S = (O_getf pW 3 8) (nx cod_X3_nextVariable cut_X3_nextVariable K n) 6 L st S) ∧
  (∀ (K : Kt PT) (n : Nat) (L : xL) (st : List Value) (S : PT), nx cod_X3_nextVariable cut_X3_nextVariable K (n + 1) 9 L st S = (O_icmp_ge 58) (nx cod_X3_nextVariable cut_X3_nextVariable K n) 9 L st S) ∧
  (∀ (K : Kt PT) (n : Nat) (L : xL) (st : List Value) (S : PT), nx cod_X3_nextVariable cut_X3_nextVariable K (n + 1) 12 L st S = (O_aload 0 1) (nx cod_X3_nextVariable cut_X3_nextVariable K n) 12 L st S) ∧
  (∀ (K : Kt PT) (n : Nat) (L : xL) (st : List Value) (S : PT), nx cod_X3_nextVariable cut_X3_nextVariable K (n + 1) 13 L st S = (O_getf pW 3 4) (nx cod_X3_nextVariable cut_X3_nextVariable K n) 13 L st S) ∧
  (∀ (K : Kt PT) (n : Nat) (L : xL) (st : List Value) (S : PT), nx cod_X3_nextVariable cut_X3_nextVariable K (n + 1) 16 L st S = (O_iload 2 1) (nx cod_X3_nextVariable cut_X3_nextVariable K n) 16 L st S) ∧
  (∀ (K : Kt PT) (n : Nat) (L : xL) (st : List Value) (S : PT), nx cod_X3_nextVariable cut_X3_nextVariable K (n + 1) 17 L st S = (O_ald pW 0) (nx cod_X3_nextVariable cut_X3_nextVariable K n) 17 L st S) ∧
  (∀ (K : Kt PT) (n : Nat) (L : xL) (st : List Value) (S : PT), nx cod_X3_nextVariable cut_X3_nextVariable K (n + 1) 18 L st S = (O_if_le 52) (nx cod_X3_nextVariable cut_X3_nextVariable K n) 18 L st S) ∧
  (∀ (K : Kt PT) (n : Nat) (L : xL) (st : List Value) (S : PT), nx cod_X3_nextVariable cut_X3_nextVariable K (n + 1) 21 L st S = (O_aload 0 1) (nx cod_X3_nextVariable cut_X3_nextVariable K n) 21 L st S) ∧
  (∀ (K : Kt PT) (n : Nat) (L : xL) (st : List Value) (S : PT), nx cod_X3_nextVariable cut_X3_nextVariable K (n + 1) 22 L st S = (O_getf pW 3 0) (nx cod_X3_nextVariable cut_X3_nextVariable K n) 22 L st S) ∧
  (∀ (K : Kt PT) (n : Nat) (L : xL) (st : List Value) (S : PT), nx cod_X3_nextVariable cut_X3_nextVariable K (n + 1) 25 L st S = (O_iload 2 1) (nx cod_X3_nextVariable cut_X3_nextVariable K n) 25 L st S) ∧
  (∀ (K : Kt PT) (n : Nat) (L : xL) (st : List Value) (S : PT), nx cod_X3_nextVariable cut_X3_nextVariable K (n + 1) 26 L st S = (O_ald pW 0) (nx cod_X3_nextVariable cut_X3_nextVariable K n) 26 L st S) ∧
  (∀ (K : Kt PT) (n : Nat) (L : xL) (st : List Value) (S : PT), nx cod_X3_nextVariable cut_X3_nextVariable K (n + 1) 27 L st S = (O_if_eq 52) (nx cod_X3_nextVariable cut_X3_nextVariable K n) 27 L st S) ∧
  (∀ (K : Kt PT) (n : Nat) (L : xL) (st : List Value) (S : PT), nx cod_X3_nextVariable cut_X3_nextVariable K (n + 1) 30 L st S = (O_iload 1 1) (nx cod_X3_nextVariable cut_X3_nextVariable K n) 30 L st S) ∧
  (∀ (K : Kt PT) (n : Nat) (L : xL) (st : List Value) (S : PT), nx cod_X3_nextVariable cut_X3_nextVariable K (n + 1) 31 L st S = (O_int (-1) 1) (nx cod_X3_nextVariable cut_X3_nextVariable K n) 31 L st S) ∧
  (∀ (K : Kt PT) (n : Nat) (L : xL) (st : List Value) (S : PT), nx cod_X3_nextVariable cut_X3_nextVariable K (n + 1) 32 L st S = (O_icmp_eq 50) (nx cod_X3_nextVariable cut_X3_nextVariable K n) 32 L st S) ∧
  (∀ (K : Kt PT) (n : Nat) (L : xL) (st : List Value) (S : PT), nx cod_X3_nextVariable cut_X3_nextVariable K (n + 1) 35 L st S = (O_aload 0 1) (nx cod_X3_nextVariable cut_X3_nextVariable K n) 35 L st S) ∧
  (∀ (K : Kt PT) (n : Nat) (L : xL) (st : List Value) (S : PT), nx cod_X3_nextVariable cut_X3_nextVariable K (n + 1) 36 L st S = (O_getf pW 3 5) (nx cod_X3_nextVariable cut_X3_nextVariable K n) 36 L st S) ∧
  (∀ (K : Kt PT) (n : Nat) (L : xL) (st : List Value) (S : PT), nx cod_X3_nextVariable cut_X3_nextVariable K (n + 1) 39 L st S = (O_iload 2 1) (nx cod_X3_nextVariable cut_X3_nextVariable K n) 39 L st S) ∧
  (∀ (K : Kt PT) (n : Nat) (L : xL) (st : List Value) (S : PT), nx cod_X3_nextVariable cut_X3_nextVariable K (n + 1) 40 L st S = (O_ald pW 0) (nx cod_X3_nextVariable cut_X3_nextVariable K n) 40 L st S) ∧
  (∀ (K : Kt PT) (n : Nat) (L : xL) (st : List Value) (S : PT), nx cod_X3_nextVariable cut_X3_nextVariable K (n + 1) 41 L st S = (O_aload 0 1) (nx cod_X3_nextVariable cut_X3_nextVariable K n) 41 L st S) ∧
  (∀ (K : Kt PT) (n : Nat) (L : xL) (st : List Value) (S : PT), nx cod_X3_nextVariable cut_X3_nextVariable K (n + 1) 42 L st S = (O_getf pW 3 5) (nx cod_X3_nextVariable cut_X3_nextVariable K n) 42 L st S) ∧
  (∀ (K : Kt PT) (n : Nat) (L : xL) (st : List Value) (S : PT), nx cod_X3_nextVariable cut_X3_nextVariable K (n + 1) 45 L st S = (O_iload 1 1) (nx cod_X3_nextVariable cut_X3_nextVariable K n) 45 L st S) ∧
  (∀ (K : Kt PT) (n : Nat) (L : xL) (st : List Value) (S : PT), nx cod_X3_nextVariable cut_X3_nextVariable K (n + 1) 46 L st S = (O_ald pW 0) (nx cod_X3_nextVariable cut_X3_nextVariable K n) 46 L st S) ∧
  (∀ (K : Kt PT) (n : Nat) (L : xL) (st : List Value) (S : PT), nx cod_X3_nextVariable cut_X3_nextVariable K (n + 1) 47 L st S = (O_icmp_ge 52) (nx cod_X3_nextVariable cut_X3_nextVariable K n) 47 L st S) ∧
  (∀ (K : Kt PT) (n : Nat) (L : xL) (st : List Value) (S : PT), nx cod_X3_nextVariable cut_X3_nextVariable K (n + 1) 50 L st S = (O_iload 2 1) (nx cod_X3_nextVariable cut_X3_nextVariable K n) 50 L st S) ∧
  (∀ (K : Kt PT) (n : Nat) (L : xL) (st : List Value) (S : PT), nx cod_X3_nextVariable cut_X3_nextVariable K (n + 1) 51 L st S = (O_istore 1 1) (nx cod_X3_nextVariable cut_X3_nextVariable K n) 51 L st S) ∧
  (∀ (K : Kt PT) (n : Nat) (L : xL) (st : List Value) (S : PT), nx cod_X3_nextVariable cut_X3_nextVariable K (n + 1) 52 L st S = (O_iinc 2 1) (nx cod_X3_nextVariable cut_X3_nextVariable K n) 52 L st S) ∧
  (∀ (K : Kt PT) (n : Nat) (L : xL) (st : List Value) (S : PT), nx cod_X3_nextVariable cut_X3_nextVariable K (n + 1) 55 L st S = (O_goto 4) (nx cod_X3_nextVariable cut_X3_nextVariable K n) 55 L st S) ∧
  (∀ (K : Kt PT) (n : Nat) (L : xL) (st : List Value) (S : PT), nx cod_X3_nextVariable cut_X3_nextVariable K (n + 1) 58 L st S = (O_iload 1 1) (nx cod_X3_nextVariable cut_X3_nextVariable K n) 58 L st S) ∧
  (∀ (K : Kt PT) (n : Nat) (L : xL) (st : List Value) (S : PT), nx cod_X3_nextVariable cut_X3_nextVariable K (n + 1) 59 L st S = (O_iret) (nx cod_X3_nextVariable cut_X3_nextVariable K n) 59 L st S) ∧
  (∀ (K : Kt PT) (n : Nat) (L : xL) (st : List Value) (S : PT), nx cod_X3_nextVariable cut_X3_nextVariable K (n + 1) 100000 L st S = K 100000 L st S) := by
  repeat' apply And.intro
  all_goals (intros; rfl)
set_option maxRecDepth 100000 in
theorem mk_X3_nextVariable {P P' : PT} {r : Option Value}  (body : ∀ E : En, CodOk E pW cod_X3_nextVariable → Gd E pW 100000 [] r.toList P' → Gd E pW 0 [some (.ref 0), none, none] [] P) : Con yX3_nextVariable cX3_nextVariable 3 (some .int) 0 pW [.ref 0] P r P' :=
  Con.of (by decide) rfl rfl (Nat.le_of_ble_eq_true rfl) (fun E F G hr => body E (okc_X3_nextVariable F G) hr)
theorem con_X3_nextVariable (S : PT)  (hp : S.ok) : Con yX3_nextVariable cX3_nextVariable 3 (some .int) 0 pW [.ref 0] S (some (.int (S.nextVar))) (S) := by
  refine mk_X3_nextVariable (fun E C hr => ?_)
  (refine nx_ok C (cuts := cut_X3_nextVariable) 1000 _ _ _ _ ?_; simp only [w_X3_nextVariable, ops_eq, xst_eq, call_eq, oK_eq, Option.toList_some, Option.toList_none, List.cons_append, List.nil_append, List.length_cons, List.length_nil, true_and, and_true, Nat.reduceAdd, pW_F, pW_A, pW_S, pW_P, PT_gs])
  refine it_up (f := fun p b => if S.run p = true ∧ ¬ S.kinds p = 0 ∧ (b = -1 ∨ S.minutes p < S.minutes b.toNatClampNeg) then nI p else b) (n := S.n) (fun _ b => isP b 6) (fun i b => Gd E pW 4 [some (.ref 0), some (.int b), some (.int (nI i))] [] S) (Or.inl rfl) (fun i b hi hb => ite_isP (ixs hp hi).1 hb) (fun i b hi hb hn => ?_) ?_
  · have hx := ixs hp hi
    unfold isP at hb
    (refine nx1_ok C cut_X3_nextVariable 1000 ?_; simp only [w_X3_nextVariable, ops_eq, xst_eq, call_eq, oK_eq, Option.toList_some, Option.toList_none, List.cons_append, List.nil_append, List.length_cons, List.length_nil, true_and, and_true, Nat.reduceAdd, pW_F, pW_A, pW_S, pW_P, PT_gs, hx])
    ((repeat' (with_reducible first | apply And.intro | intro _)) <;> simp_all [PT.run, PT_gs])
  · have hx := ixe hp
    (refine nx1_ok C cut_X3_nextVariable 1000 ?_; simp only [w_X3_nextVariable, ops_eq, xst_eq, call_eq, oK_eq, Option.toList_some, Option.toList_none, List.cons_append, List.nil_append, List.length_cons, List.length_nil, true_and, and_true, Nat.reduceAdd, pW_F, pW_A, pW_S, pW_P, PT_gs, hx])
    ((repeat' (with_reducible first | apply And.intro | intro _)) <;> simp_all [PT.nextVar, PT_gs])
def sp_X3_nextVariable : Sp PT := fun av S K => match av with
  | [.ref 0] => (S.ok) ∧ K (some (.int (S.nextVar))) (S)
  | _ => False
theorem se_X3_nextVariable  (S : PT) (K : Option Value → PT → Prop) : sp_X3_nextVariable [.ref 0] S K = ((S.ok) ∧ K (some (.int (S.nextVar))) (S)) := rfl
theorem spok_X3_nextVariable : SpOk yX3_nextVariable cX3_nextVariable 3 (some .int) 0 pW sp_X3_nextVariable := by
  intro av S K h
  unfold sp_X3_nextVariable at h
  split at h
  · exact ⟨some (.int (S.nextVar)), S, trivial, con_X3_nextVariable S  h.1, h.2⟩
  · exact h.elim
def PT.nextStop (S : PT) : Int32 := it (fun p b => if S.run p = true ∧ ¬ nI p = S.vrb ∧ (b = -1 ∨ S.minutes b.toNatClampNeg < S.minutes p) then nI p else b) (-1) S.n
def cod_X3_nextToStop : List (Nat × Op PT) := [(0, O_int (-1) 1), (1, O_istore 1 1), (2, O_int 0 1), (3, O_istore 2 1), (4, O_iload 2 1), (5, O_aload 0 1), (6, O_getf pW 3 8), (9, O_icmp_ge 57), (12, O_aload 0 1), (13, O_getf pW 3 4), (16, O_iload 2 1), (17, O_ald pW 0), (18, O_if_le 51), (21, O_iload 2 1), (22, O_aload 0 1), (23, O_getf pW 3 9), (26, O_icmp_eq 51), (29, O_iload 1 1), (30, O_int (-1) 1), (31, O_icmp_eq 49), (34, O_aload 0 1), (35, O_getf pW 3 5), (38, O_iload 2 1), (39, O_ald pW 0), (40, O_aload 0 1), (41, O_getf pW 3 5), (44, O_iload 1 1), (45, O_ald pW 0), (46, O_icmp_le 51), (49, O_iload 2 1), (50, O_istore 1 1), (51, O_iinc 2 1), (54, O_goto 4), (57, O_iload 1 1), (58, O_iret)]
abbrev cut_X3_nextToStop : List Nat := [4]
set_option maxRecDepth 100000 in
theorem okc_X3_nextToStop {E : En} (F : Fx E RX3 cX3_nextToStop 3 0) (G : Fr E (some .int)) : CodOk E pW cod_X3_nextToStop := by
  unfold CodOk cod_X3_nextToStop
  refine List.forall_mem_cons.mpr ⟨ok_iconst F dX3_nextToStop_0 (by decide) (by decide), ?_⟩
  refine List.forall_mem_cons.mpr ⟨ok_istore_n F dX3_nextToStop_1 rfl (by decide) (by decide), ?_⟩
  refine List.forall_mem_cons.mpr ⟨ok_iconst F dX3_nextToStop_2 (by decide) (by decide), ?_⟩
  refine List.forall_mem_cons.mpr ⟨ok_istore_n F dX3_nextToStop_3 rfl (by decide) (by decide), ?_⟩
  refine List.forall_mem_cons.mpr ⟨ok_iload_n F dX3_nextToStop_4 rfl (by decide), ?_⟩
  refine List.forall_mem_cons.mpr ⟨ok_aload_n F dX3_nextToStop_5 rfl (by decide), ?_⟩
  refine List.forall_mem_cons.mpr ⟨ok_getf F flX3_47 dX3_nextToStop_6 (by decide), ?_⟩
  refine List.forall_mem_cons.mpr ⟨ok_icmp_ge F dX3_nextToStop_9 (by decide) (by decide) (by decide), ?_⟩
  refine List.forall_mem_cons.mpr ⟨ok_aload_n F dX3_nextToStop_12 rfl (by decide), ?_⟩
  refine List.forall_mem_cons.mpr ⟨ok_getf F flX3_25 dX3_nextToStop_13 (by decide), ?_⟩
  refine List.forall_mem_cons.mpr ⟨ok_iload_n F dX3_nextToStop_16 rfl (by decide), ?_⟩
  refine List.forall_mem_cons.mpr ⟨ok_iald F dX3_nextToStop_17 (by decide), ?_⟩
  refine List.forall_mem_cons.mpr ⟨ok_if_le F dX3_nextToStop_18 (by decide) (by decide) (by decide), ?_⟩
  refine List.forall_mem_cons.mpr ⟨ok_iload_n F dX3_nextToStop_21 rfl (by decide), ?_⟩
  refine List.forall_mem_cons.mpr ⟨ok_aload_n F dX3_nextToStop_22 rfl (by decide), ?_⟩
  refine List.forall_mem_cons.mpr ⟨ok_getf F flX3_37 dX3_nextToStop_23 (by decide), ?_⟩
  refine List.forall_mem_cons.mpr ⟨ok_icmp_eq F dX3_nextToStop_26 (by decide) (by decide) (by decide), ?_⟩
  refine List.forall_mem_cons.mpr ⟨ok_iload_n F dX3_nextToStop_29 rfl (by decide), ?_⟩
  refine List.forall_mem_cons.mpr ⟨ok_iconst F dX3_nextToStop_30 (by decide) (by decide), ?_⟩
  refine List.forall_mem_cons.mpr ⟨ok_icmp_eq F dX3_nextToStop_31 (by decide) (by decide) (by decide), ?_⟩
  refine List.forall_mem_cons.mpr ⟨ok_aload_n F dX3_nextToStop_34 rfl (by decide), ?_⟩
  refine List.forall_mem_cons.mpr ⟨ok_getf F flX3_28 dX3_nextToStop_35 (by decide), ?_⟩
  refine List.forall_mem_cons.mpr ⟨ok_iload_n F dX3_nextToStop_38 rfl (by decide), ?_⟩
  refine List.forall_mem_cons.mpr ⟨ok_iald F dX3_nextToStop_39 (by decide), ?_⟩
  refine List.forall_mem_cons.mpr ⟨ok_aload_n F dX3_nextToStop_40 rfl (by decide), ?_⟩
  refine List.forall_mem_cons.mpr ⟨ok_getf F flX3_28 dX3_nextToStop_41 (by decide), ?_⟩
  refine List.forall_mem_cons.mpr ⟨ok_iload_n F dX3_nextToStop_44 rfl (by decide), ?_⟩
  refine List.forall_mem_cons.mpr ⟨ok_iald F dX3_nextToStop_45 (by decide), ?_⟩
  refine List.forall_mem_cons.mpr ⟨ok_icmp_le F dX3_nextToStop_46 (by decide) (by decide) (by decide), ?_⟩
  refine List.forall_mem_cons.mpr ⟨ok_iload_n F dX3_nextToStop_49 rfl (by decide), ?_⟩
  refine List.forall_mem_cons.mpr ⟨ok_istore_n F dX3_nextToStop_50 rfl (by decide) (by decide), ?_⟩
  refine List.forall_mem_cons.mpr ⟨ok_iinc F dX3_nextToStop_51 (by decide) (by decide) (by decide), ?_⟩
  refine List.forall_mem_cons.mpr ⟨ok_goto F dX3_nextToStop_54 (by decide) (by decide) (by decide), ?_⟩
  refine List.forall_mem_cons.mpr ⟨ok_iload_n F dX3_nextToStop_57 rfl (by decide), ?_⟩
  refine List.forall_mem_cons.mpr ⟨ok_iret F G dX3_nextToStop_58 (by decide), ?_⟩
  exact fun _ h => absurd h List.not_mem_nil
set_option maxRecDepth 100000 in
theorem w_X3_nextToStop : (∀ (K : Kt PT) (n : Nat) (L : xL) (st : List Value) (S : PT), nx cod_X3_nextToStop cut_X3_nextToStop K (n + 1) 0 L st S = (O_int (-1) 1) (nx cod_X3_nextToStop cut_X3_nextToStop K n) 0 L st S) ∧
  (∀ (K : Kt PT) (n : Nat) (L : xL) (st : List Value) (S : PT), nx cod_X3_nextToStop cut_X3_nextToStop K (n + 1) 1 L st S = (O_istore 1 1) (nx cod_X3_nextToStop cut_X3_nextToStop K n) 1 L st S) ∧
  (∀ (K : Kt PT) (n : Nat) (L : xL) (st : List Value) (S : PT), nx cod_X3_nextToStop cut_X3_nextToStop K (n + 1) 2 L st S = (O_int 0 1) (nx cod_X3_nextToStop cut_X3_nextToStop K n) 2 L st S) ∧
  (∀ (K : Kt PT) (n : Nat) (L : xL) (st : List Value) (S : PT), nx cod_X3_nextToStop cut_X3_nextToStop K (n + 1) 3 L st S = (O_istore 2 1) (nx cod_X3_nextToStop cut_X3_nextToStop K n) 3 L st S) ∧
  (∀ (K : Kt PT) (n : Nat) (L : xL) (st : List Value) (S : PT), nx cod_X3_nextToStop cut_X3_nextToStop K (n + 1) 4 L st S = K 4 L st S) ∧
  (∀ (K : Kt PT) (n : Nat) (L : xL) (st : List Value) (S : PT), nx1 cod_X3_nextToStop cut_X3_nextToStop K n 4 L st S = (O_iload 2 1) (nx cod_X3_nextToStop cut_X3_nextToStop K n) 4 L st S) ∧
  (∀ (K : Kt PT) (n : Nat) (L : xL) (st : List Value) (S : PT), nx cod_X3_nextToStop cut_X3_nextToStop K (n + 1) 5 L st S = (O_aload 0 1) (nx cod_X3_nextToStop cut_X3_nextToStop K n) 5 L st S) ∧
  (∀ (K : Kt PT) (n : Nat) (L : xL) (st : List Value) (S : PT), nx cod_X3_nextToStop cut_X3_nextToStop K (n + 1) 6 L st S = (O_getf pW 3 8) (nx cod_X3_nextToStop cut_X3_nextToStop K n) 6 L st S) ∧
  (∀ (K : Kt PT) (n : Nat) (L : xL) (st : List Value) (S : PT), nx cod_X3_nextToStop cut_X3_nextToStop K (n + 1) 9 L st S = (O_icmp_ge 57) (nx cod_X3_nextToStop cut_X3_nextToStop K n) 9 L st S) ∧
  (∀ (K : Kt PT) (n : Nat) (L : xL) (st : List Value) (S : PT), nx cod_X3_nextToStop cut_X3_nextToStop K (n + 1) 12 L st S = (O_aload 0 1) (nx cod_X3_nextToStop cut_X3_nextToStop K n) 12 L st S) ∧
  (∀ (K : Kt PT) (n : Nat) (L : xL) (st : List Value) (S : PT), nx cod_X3_nextToStop cut_X3_nextToStop K (n + 1) 13 L st S = (O_getf pW 3 4) (nx cod_X3_nextToStop cut_X3_nextToStop K n) 13 L st S) ∧
  (∀ (K : Kt PT) (n : Nat) (L : xL) (st : List Value) (S : PT), nx cod_X3_nextToStop cut_X3_nextToStop K (n + 1) 16 L st S = (O_iload 2 1) (nx cod_X3_nextToStop cut_X3_nextToStop K n) 16 L st S) ∧
  (∀ (K : Kt PT) (n : Nat) (L : xL) (st : List Value) (S : PT), nx cod_X3_nextToStop cut_X3_nextToStop K (n + 1) 17 L st S = (O_ald pW 0) (nx cod_X3_nextToStop cut_X3_nextToStop K n) 17 L st S) ∧
  (∀ (K : Kt PT) (n : Nat) (L : xL) (st : List Value) (S : PT), nx cod_X3_nextToStop cut_X3_nextToStop K (n + 1) 18 L st S = (O_if_le 51) (nx cod_X3_nextToStop cut_X3_nextToStop K n) 18 L st S) ∧
  (∀ (K : Kt PT) (n : Nat) (L : xL) (st : List Value) (S : PT), nx cod_X3_nextToStop cut_X3_nextToStop K (n + 1) 21 L st S = (O_iload 2 1) (nx cod_X3_nextToStop cut_X3_nextToStop K n) 21 L st S) ∧
  (∀ (K : Kt PT) (n : Nat) (L : xL) (st : List Value) (S : PT), nx cod_X3_nextToStop cut_X3_nextToStop K (n + 1) 22 L st S = (O_aload 0 1) (nx cod_X3_nextToStop cut_X3_nextToStop K n) 22 L st S) ∧
  (∀ (K : Kt PT) (n : Nat) (L : xL) (st : List Value) (S : PT), nx cod_X3_nextToStop cut_X3_nextToStop K (n + 1) 23 L st S = (O_getf pW 3 9) (nx cod_X3_nextToStop cut_X3_nextToStop K n) 23 L st S) ∧
  (∀ (K : Kt PT) (n : Nat) (L : xL) (st : List Value) (S : PT), nx cod_X3_nextToStop cut_X3_nextToStop K (n + 1) 26 L st S = (O_icmp_eq 51) (nx cod_X3_nextToStop cut_X3_nextToStop K n) 26 L st S) ∧
  (∀ (K : Kt PT) (n : Nat) (L : xL) (st : List Value) (S : PT), nx cod_X3_nextToStop cut_X3_nextToStop K (n + 1) 29 L st S = (O_iload 1 1) (nx cod_X3_nextToStop cut_X3_nextToStop K n) 29 L st S) ∧
  (∀ (K : Kt PT) (n : Nat) (L : xL) (st : List Value) (S : PT), nx cod_X3_nextToStop cut_X3_nextToStop K (n + 1) 30 L st S = (O_int (-1) 1) (nx cod_X3_nextToStop cut_X3_nextToStop K n) 30 L st S) ∧
  (∀ (K : Kt PT) (n : Nat) (L : xL) (st : List Value) (S : PT), nx cod_X3_nextToStop cut_X3_nextToStop K (n + 1) 31 L st S = (O_icmp_eq 49) (nx cod_X3_nextToStop cut_X3_nextToStop K n) 31 L st S) ∧
  (∀ (K : Kt PT) (n : Nat) (L : xL) (st : List Value) (S : PT), nx cod_X3_nextToStop cut_X3_nextToStop K (n + 1) 34 L st S = (O_aload 0 1) (nx cod_X3_nextToStop cut_X3_nextToStop K n) 34 L st S) ∧
  (∀ (K : Kt PT) (n : Nat) (L : xL) (st : List Value) (S : PT), nx cod_X3_nextToStop cut_X3_nextToStop K (n + 1) 35 L st S = (O_getf pW 3 5) (nx cod_X3_nextToStop cut_X3_nextToStop K n) 35 L st S) ∧
  (∀ (K : Kt PT) (n : Nat) (L : xL) (st : List Value) (S : PT), nx cod_X3_nextToStop cut_X3_nextToStop K (n + 1) 38 L st S = (O_iload 2 1) (nx cod_X3_nextToStop cut_X3_nextToStop K n) 38 L st S) ∧
  (∀ (K : Kt PT) (n : Nat) (L : xL) (st : List Value) (S : PT), nx cod_X3_nextToStop cut_X3_nextToStop K (n + 1) 39 L st S = (O_ald pW 0) (nx cod_X3_nextToStop cut_X3_nextToStop K n) 39 L st S) ∧
  (∀ (K : Kt PT) (n : Nat) (L : xL) (st : List Value) (S : PT), nx cod_X3_nextToStop cut_X3_nextToStop K (n + 1) 40 L st S = (O_aload 0 1) (nx cod_X3_nextToStop cut_X3_nextToStop K n) 40 L st S) ∧
  (∀ (K : Kt PT) (n : Nat) (L : xL) (st : List Value) (S : PT), nx cod_X3_nextToStop cut_X3_nextToStop K (n + 1) 41 L st S = (O_getf pW 3 5) (nx cod_X3_nextToStop cut_X3_nextToStop K n) 41 L st S) ∧
  (∀ (K : Kt PT) (n : Nat) (L : xL) (st : List Value) (S : PT), nx cod_X3_nextToStop cut_X3_nextToStop K (n + 1) 44 L st S = (O_iload 1 1) (nx cod_X3_nextToStop cut_X3_nextToStop K n) 44 L st S) ∧
  (∀ (K : Kt PT) (n : Nat) (L : xL) (st : List Value) (S : PT), nx cod_X3_nextToStop cut_X3_nextToStop K (n + 1) 45 L st S = (O_ald pW 0) (nx cod_X3_nextToStop cut_X3_nextToStop K n) 45 L st S) ∧
  (∀ (K : Kt PT) (n : Nat) (L : xL) (st : List Value) (S : PT), nx cod_X3_nextToStop cut_X3_nextToStop K (n + 1) 46 L st S = (O_icmp_le 51) (nx cod_X3_nextToStop cut_X3_nextToStop K n) 46 L st S) ∧
  (∀ (K : Kt PT) (n : Nat) (L : xL) (st : List Value) (S : PT), nx cod_X3_nextToStop cut_X3_nextToStop K (n + 1) 49 L st S = (O_iload 2 1) (nx cod_X3_nextToStop cut_X3_nextToStop K n) 49 L st S) ∧
  (∀ (K : Kt PT) (n : Nat) (L : xL) (st : List Value) (S : PT), nx cod_X3_nextToStop cut_X3_nextToStop K (n + 1) 50 L st S = (O_istore 1 1) (nx cod_X3_nextToStop cut_X3_nextToStop K n) 50 L st S) ∧
  (∀ (K : Kt PT) (n : Nat) (L : xL) (st : List Value) (S : PT), nx cod_X3_nextToStop cut_X3_nextToStop K (n + 1) 51 L st S = (O_iinc 2 1) (nx cod_X3_nextToStop cut_X3_nextToStop K n) 51 L st S) ∧
  (∀ (K : Kt PT) (n : Nat) (L : xL) (st : List Value) (S : PT), nx cod_X3_nextToStop cut_X3_nextToStop K (n + 1) 54 L st S = (O_goto 4) (nx cod_X3_nextToStop cut_X3_nextToStop K n) 54 L st S) ∧
  (∀ (K : Kt PT) (n : Nat) (L : xL) (st : List Value) (S : PT), nx cod_X3_nextToStop cut_X3_nextToStop K (n + 1) 57 L st S = (O_iload 1 1) (nx cod_X3_nextToStop cut_X3_nextToStop K n) 57 L st S) ∧
  (∀ (K : Kt PT) (n : Nat) (L : xL) (st : List Value) (S : PT), nx cod_X3_nextToStop cut_X3_nextToStop K (n + 1) 58 L st S = (O_iret) (nx cod_X3_nextToStop cut_X3_nextToStop K n) 58 L st S) ∧
  (∀ (K : Kt PT) (n : Nat) (L : xL) (st : List Value) (S : PT), nx cod_X3_nextToStop cut_X3_nextToStop K (n + 1) 100000 L st S = K 100000 L st S) := by
  repeat' apply And.intro
  all_goals (intros; rfl)
set_option maxRecDepth 100000 in
theorem mk_X3_nextToStop {P P' : PT} {r : Option Value}  (body : ∀ E : En, CodOk E pW cod_X3_nextToStop → Gd E pW 100000 [] r.toList P' → Gd E pW 0 [some (.ref 0), none, none] [] P) : Con yX3_nextToStop cX3_nextToStop 3 (some .int) 0 pW [.ref 0] P r P' :=
  Con.of (by decide) rfl rfl (Nat.le_of_ble_eq_true rfl) (fun E F G hr => body E (okc_X3_nextToStop F G) hr)
theorem con_X3_nextToStop (S : PT)  (hp : S.ok) : Con yX3_nextToStop cX3_nextToStop 3 (some .int) 0 pW [.ref 0] S (some (.int (S.nextStop))) (S) := by
  refine mk_X3_nextToStop (fun E C hr => ?_)
  (refine nx_ok C (cuts := cut_X3_nextToStop) 1000 _ _ _ _ ?_; simp only [w_X3_nextToStop, ops_eq, xst_eq, call_eq, oK_eq, Option.toList_some, Option.toList_none, List.cons_append, List.nil_append, List.length_cons, List.length_nil, true_and, and_true, Nat.reduceAdd, pW_F, pW_A, pW_S, pW_P, PT_gs])
  refine it_up (f := fun p b => if S.run p = true ∧ ¬ nI p = S.vrb ∧ (b = -1 ∨ S.minutes b.toNatClampNeg < S.minutes p) then nI p else b) (n := S.n) (fun _ b => isP b 6) (fun i b => Gd E pW 4 [some (.ref 0), some (.int b), some (.int (nI i))] [] S) (Or.inl rfl) (fun i b hi hb => ite_isP (ixs hp hi).1 hb) (fun i b hi hb hn => ?_) ?_
  · have hx := ixs hp hi
    unfold isP at hb
    (refine nx1_ok C cut_X3_nextToStop 1000 ?_; simp only [w_X3_nextToStop, ops_eq, xst_eq, call_eq, oK_eq, Option.toList_some, Option.toList_none, List.cons_append, List.nil_append, List.length_cons, List.length_nil, true_and, and_true, Nat.reduceAdd, pW_F, pW_A, pW_S, pW_P, PT_gs, hx])
    ((repeat' (with_reducible first | apply And.intro | intro _)) <;> simp_all [PT.run, PT_gs])
  · have hx := ixe hp
    (refine nx1_ok C cut_X3_nextToStop 1000 ?_; simp only [w_X3_nextToStop, ops_eq, xst_eq, call_eq, oK_eq, Option.toList_some, Option.toList_none, List.cons_append, List.nil_append, List.length_cons, List.length_nil, true_and, and_true, Nat.reduceAdd, pW_F, pW_A, pW_S, pW_P, PT_gs, hx])
    ((repeat' (with_reducible first | apply And.intro | intro _)) <;> simp_all [PT.nextStop, PT_gs])
def sp_X3_nextToStop : Sp PT := fun av S K => match av with
  | [.ref 0] => (S.ok) ∧ K (some (.int (S.nextStop))) (S)
  | _ => False
theorem se_X3_nextToStop  (S : PT) (K : Option Value → PT → Prop) : sp_X3_nextToStop [.ref 0] S K = ((S.ok) ∧ K (some (.int (S.nextStop))) (S)) := rfl
theorem spok_X3_nextToStop : SpOk yX3_nextToStop cX3_nextToStop 3 (some .int) 0 pW sp_X3_nextToStop := by
  intro av S K h
  unfold sp_X3_nextToStop at h
  split at h
  · exact ⟨some (.int (S.nextStop)), S, trivial, con_X3_nextToStop S  h.1, h.2⟩
  · exact h.elim
def PT.stop (S : PT) (p : Int32) : PT :=
  if S.has p = false then S else
  let S1 := (S.sSpeeds (upd S.speeds p.toNatClampNeg 0)).sSince (upd S.since p.toNatClampNeg 0)
  if p = S.vrb then S1.sVrb S1.nextVar else S1
theorem PT_ok : (∀ (S : PT) (x : Nat → Int32), (S.sStarts x).ok = S.ok) ∧ (∀ (S : PT) (x : Nat → Int32), (S.sSpeeds x).ok = S.ok) ∧ (∀ (S : PT) (x : Nat → Int32), (S.sMinutes x).ok = S.ok) ∧ (∀ (S : PT) (x : Nat → Int32), (S.sSince x).ok = S.ok) ∧ (∀ (S : PT) (x : Nat → Int32), (S.sInService x).ok = S.ok) ∧ (∀ (S : PT) (x : Int32), (S.sVrb x).ok = S.ok) := ⟨fun _ _ => rfl, fun _ _ => rfl, fun _ _ => rfl, fun _ _ => rfl, fun _ _ => rfl, fun _ _ => rfl⟩
theorem flX3_31 : fldOk RX3 31 3 6 = true := by decide +kernel
def cod_X3_stop : List (Nat × Op PT) := [(0, O_aload 0 1), (1, O_iload 1 1), (2, O_callV 1 0 (fun S => S) (fun _ S' => S') sp_X3_has), (5, O_if_ne 9), (8, O_vret), (9, O_aload 0 1), (10, O_getf pW 3 4), (13, O_iload 1 1), (14, O_int 0 1), (15, O_ast pW 0 pW_sa), (16, O_aload 0 1), (17, O_getf pW 3 6), (20, O_iload 1 1), (21, O_int 0 1), (22, O_ast pW 0 pW_sa), (23, O_iload 1 1), (24, O_aload 0 1), (25, O_getf pW 3 9), (28, O_icmp_ne 39), (31, O_aload 0 1), (32, O_aload 0 1), (33, O_callV 0 0 (fun S => S) (fun _ S' => S') sp_X3_nextVariable), (36, O_puti pW_p3_9), (39, O_vret)]
abbrev cut_X3_stop : List Nat := []
set_option maxRecDepth 100000 in
theorem okc_X3_stop {E : En} (F : Fx E RX3 cX3_stop 2 1) (G : Fr E none) : CodOk E pW cod_X3_stop := by
  unfold CodOk cod_X3_stop
  refine List.forall_mem_cons.mpr ⟨ok_aload_n F dX3_stop_0 rfl (by decide), ?_⟩
  refine List.forall_mem_cons.mpr ⟨ok_iload_n F dX3_stop_1 rfl (by decide), ?_⟩
  refine List.forall_mem_cons.mpr ⟨ok_callV F spok_X3_has (ln_id pW) rcv_pW (by decide +kernel) (by decide) dX3_stop_2 (by decide), ?_⟩
  refine List.forall_mem_cons.mpr ⟨ok_if_ne F dX3_stop_5 (by decide) (by decide) (by decide), ?_⟩
  refine List.forall_mem_cons.mpr ⟨ok_vret F G dX3_stop_8 (by decide), ?_⟩
  refine List.forall_mem_cons.mpr ⟨ok_aload_n F dX3_stop_9 rfl (by decide), ?_⟩
  refine List.forall_mem_cons.mpr ⟨ok_getf F flX3_25 dX3_stop_10 (by decide), ?_⟩
  refine List.forall_mem_cons.mpr ⟨ok_iload_n F dX3_stop_13 rfl (by decide), ?_⟩
  refine List.forall_mem_cons.mpr ⟨ok_iconst F dX3_stop_14 (by decide) (by decide), ?_⟩
  refine List.forall_mem_cons.mpr ⟨ok_iast F pW_sar dX3_stop_15 (by decide), ?_⟩
  refine List.forall_mem_cons.mpr ⟨ok_aload_n F dX3_stop_16 rfl (by decide), ?_⟩
  refine List.forall_mem_cons.mpr ⟨ok_getf F flX3_31 dX3_stop_17 (by decide), ?_⟩
  refine List.forall_mem_cons.mpr ⟨ok_iload_n F dX3_stop_20 rfl (by decide), ?_⟩
  refine List.forall_mem_cons.mpr ⟨ok_iconst F dX3_stop_21 (by decide) (by decide), ?_⟩
  refine List.forall_mem_cons.mpr ⟨ok_iast F pW_sar dX3_stop_22 (by decide), ?_⟩
  refine List.forall_mem_cons.mpr ⟨ok_iload_n F dX3_stop_23 rfl (by decide), ?_⟩
  refine List.forall_mem_cons.mpr ⟨ok_aload_n F dX3_stop_24 rfl (by decide), ?_⟩
  refine List.forall_mem_cons.mpr ⟨ok_getf F flX3_37 dX3_stop_25 (by decide), ?_⟩
  refine List.forall_mem_cons.mpr ⟨ok_icmp_ne F dX3_stop_28 (by decide) (by decide) (by decide), ?_⟩
  refine List.forall_mem_cons.mpr ⟨ok_aload_n F dX3_stop_31 rfl (by decide), ?_⟩
  refine List.forall_mem_cons.mpr ⟨ok_aload_n F dX3_stop_32 rfl (by decide), ?_⟩
  refine List.forall_mem_cons.mpr ⟨ok_callV F spok_X3_nextVariable (ln_id pW) rcv_pW (by decide +kernel) (by decide) dX3_stop_33 (by decide), ?_⟩
  refine List.forall_mem_cons.mpr ⟨ok_puti F pW_p3_9_ok (fun _ _ _ h => by cases h; rfl) rfl flX3_37 dX3_stop_36 (by decide), ?_⟩
  refine List.forall_mem_cons.mpr ⟨ok_vret F G dX3_stop_39 (by decide), ?_⟩
  exact fun _ h => absurd h List.not_mem_nil
set_option maxRecDepth 100000 in
theorem w_X3_stop : (∀ (K : Kt PT) (n : Nat) (L : xL) (st : List Value) (S : PT), nx cod_X3_stop cut_X3_stop K (n + 1) 0 L st S = (O_aload 0 1) (nx cod_X3_stop cut_X3_stop K n) 0 L st S) ∧
  (∀ (K : Kt PT) (n : Nat) (L : xL) (st : List Value) (S : PT), nx cod_X3_stop cut_X3_stop K (n + 1) 1 L st S = (O_iload 1 1) (nx cod_X3_stop cut_X3_stop K n) 1 L st S) ∧
  (∀ (K : Kt PT) (n : Nat) (L : xL) (st : List Value) (S : PT), nx cod_X3_stop cut_X3_stop K (n + 1) 2 L st S = (O_callV 1 0 (fun S => S) (fun _ S' => S') sp_X3_has) (nx cod_X3_stop cut_X3_stop K n) 2 L st S) ∧
  (∀ (K : Kt PT) (n : Nat) (L : xL) (st : List Value) (S : PT), nx cod_X3_stop cut_X3_stop K (n + 1) 5 L st S = (O_if_ne 9) (nx cod_X3_stop cut_X3_stop K n) 5 L st S) ∧
  (∀ (K : Kt PT) (n : Nat) (L : xL) (st : List Value) (S : PT), nx cod_X3_stop cut_X3_stop K (n + 1) 8 L st S = (O_vret) (nx cod_X3_stop cut_X3_stop K n) 8 L st S) ∧
  (∀ (K : Kt PT) (n : Nat) (L : xL) (st : List Value) (S : PT), nx cod_X3_stop cut_X3_stop K (n + 1) 9 L st S = (O_aload 0 1) (nx cod_X3_stop cut_X3_stop K n) 9 L st S) ∧
  (∀ (K : Kt PT) (n : Nat) (L : xL) (st : List Value) (S : PT), nx cod_X3_stop cut_X3_stop K (n + 1) 10 L st S = (O_getf pW 3 4) (nx cod_X3_stop cut_X3_stop K n) 10 L st S) ∧
  (∀ (K : Kt PT) (n : Nat) (L : xL) (st : List Value) (S : PT), nx cod_X3_stop cut_X3_stop K (n + 1) 13 L st S = (O_iload 1 1) (nx cod_X3_stop cut_X3_stop K n) 13 L st S) ∧
  (∀ (K : Kt PT) (n : Nat) (L : xL) (st : List Value) (S : PT), nx cod_X3_stop cut_X3_stop K (n + 1) 14 L st S = (O_int 0 1) (nx cod_X3_stop cut_X3_stop K n) 14 L st S) ∧
  (∀ (K : Kt PT) (n : Nat) (L : xL) (st : List Value) (S : PT), nx cod_X3_stop cut_X3_stop K (n + 1) 15 L st S = (O_ast pW 0 pW_sa) (nx cod_X3_stop cut_X3_stop K n) 15 L st S) ∧
  (∀ (K : Kt PT) (n : Nat) (L : xL) (st : List Value) (S : PT), nx cod_X3_stop cut_X3_stop K (n + 1) 16 L st S = (O_aload 0 1) (nx cod_X3_stop cut_X3_stop K n) 16 L st S) ∧
  (∀ (K : Kt PT) (n : Nat) (L : xL) (st : List Value) (S : PT), nx cod_X3_stop cut_X3_stop K (n + 1) 17 L st S = (O_getf pW 3 6) (nx cod_X3_stop cut_X3_stop K n) 17 L st S) ∧
  (∀ (K : Kt PT) (n : Nat) (L : xL) (st : List Value) (S : PT), nx cod_X3_stop cut_X3_stop K (n + 1) 20 L st S = (O_iload 1 1) (nx cod_X3_stop cut_X3_stop K n) 20 L st S) ∧
  (∀ (K : Kt PT) (n : Nat) (L : xL) (st : List Value) (S : PT), nx cod_X3_stop cut_X3_stop K (n + 1) 21 L st S = (O_int 0 1) (nx cod_X3_stop cut_X3_stop K n) 21 L st S) ∧
  (∀ (K : Kt PT) (n : Nat) (L : xL) (st : List Value) (S : PT), nx cod_X3_stop cut_X3_stop K (n + 1) 22 L st S = (O_ast pW 0 pW_sa) (nx cod_X3_stop cut_X3_stop K n) 22 L st S) ∧
  (∀ (K : Kt PT) (n : Nat) (L : xL) (st : List Value) (S : PT), nx cod_X3_stop cut_X3_stop K (n + 1) 23 L st S = (O_iload 1 1) (nx cod_X3_stop cut_X3_stop K n) 23 L st S) ∧
  (∀ (K : Kt PT) (n : Nat) (L : xL) (st : List Value) (S : PT), nx cod_X3_stop cut_X3_stop K (n + 1) 24 L st S = (O_aload 0 1) (nx cod_X3_stop cut_X3_stop K n) 24 L st S) ∧
  (∀ (K : Kt PT) (n : Nat) (L : xL) (st : List Value) (S : PT), nx cod_X3_stop cut_X3_stop K (n + 1) 25 L st S = (O_getf pW 3 9) (nx cod_X3_stop cut_X3_stop K n) 25 L st S) ∧
  (∀ (K : Kt PT) (n : Nat) (L : xL) (st : List Value) (S : PT), nx cod_X3_stop cut_X3_stop K (n + 1) 28 L st S = (O_icmp_ne 39) (nx cod_X3_stop cut_X3_stop K n) 28 L st S) ∧
  (∀ (K : Kt PT) (n : Nat) (L : xL) (st : List Value) (S : PT), nx cod_X3_stop cut_X3_stop K (n + 1) 31 L st S = (O_aload 0 1) (nx cod_X3_stop cut_X3_stop K n) 31 L st S) ∧
  (∀ (K : Kt PT) (n : Nat) (L : xL) (st : List Value) (S : PT), nx cod_X3_stop cut_X3_stop K (n + 1) 32 L st S = (O_aload 0 1) (nx cod_X3_stop cut_X3_stop K n) 32 L st S) ∧
  (∀ (K : Kt PT) (n : Nat) (L : xL) (st : List Value) (S : PT), nx cod_X3_stop cut_X3_stop K (n + 1) 33 L st S = (O_callV 0 0 (fun S => S) (fun _ S' => S') sp_X3_nextVariable) (nx cod_X3_stop cut_X3_stop K n) 33 L st S) ∧
  (∀ (K : Kt PT) (n : Nat) (L : xL) (st : List Value) (S : PT), nx cod_X3_stop cut_X3_stop K (n + 1) 36 L st S = (O_puti pW_p3_9) (nx cod_X3_stop cut_X3_stop K n) 36 L st S) ∧
  (∀ (K : Kt PT) (n : Nat) (L : xL) (st : List Value) (S : PT), nx cod_X3_stop cut_X3_stop K (n + 1) 39 L st S = (O_vret) (nx cod_X3_stop cut_X3_stop K n) 39 L st S) ∧
  (∀ (K : Kt PT) (n : Nat) (L : xL) (st : List Value) (S : PT), nx cod_X3_stop cut_X3_stop K (n + 1) 100000 L st S = K 100000 L st S) := by
  repeat' apply And.intro
  all_goals (intros; rfl)
set_option maxRecDepth 100000 in
theorem mk_X3_stop {P P' : PT} {r : Option Value} {p0 : Int32} (body : ∀ E : En, CodOk E pW cod_X3_stop → Gd E pW 100000 [] r.toList P' → Gd E pW 0 [some (.ref 0), some (.int p0)] [] P) : Con yX3_stop cX3_stop 2 none 1 pW [.ref 0, .int p0] P r P' :=
  Con.of (by decide) rfl rfl (Nat.le_of_ble_eq_true rfl) (fun E F G hr => body E (okc_X3_stop F G) hr)
theorem con_X3_stop (S : PT) (p : Int32) (hp : S.ok) : Con yX3_stop cX3_stop 2 none 1 pW [.ref 0, .int p] S (none) (S.stop p) := by
  refine mk_X3_stop (fun E C hr => ?_)
  have hv := PT.has_in (p := p) hp
  (refine nx_ok C (cuts := cut_X3_stop) 1000 _ _ _ _ ?_; simp only [w_X3_stop, ops_eq, xst_eq, call_eq, oK_eq, Option.toList_some, Option.toList_none, List.cons_append, List.nil_append, List.length_cons, List.length_nil, true_and, and_true, Nat.reduceAdd, pW_F, pW_A, pW_S, pW_P, PT_gs, se_X3_has, se_X3_nextVariable, bI_eq, PT_has, PT_ok])
  ((repeat' (with_reducible first | apply And.intro | intro _)) <;> simp_all [PT.stop, PT_gs])
def sp_X3_stop : Sp PT := fun av S K => match av with
  | [.ref 0, .int p] => (S.ok) ∧ K (none) (S.stop p)
  | _ => False
theorem se_X3_stop (p : Int32) (S : PT) (K : Option Value → PT → Prop) : sp_X3_stop [.ref 0, .int p] S K = ((S.ok) ∧ K (none) (S.stop p)) := rfl
theorem spok_X3_stop : SpOk yX3_stop cX3_stop 2 none 1 pW sp_X3_stop := by
  intro av S K h
  unfold sp_X3_stop at h
  split at h
  · rename_i p; exact ⟨none, S.stop p, trivial, con_X3_stop S p h.1, h.2⟩
  · exact h.elim
def PT.nextRot (S : PT) : Int32 :=
  if S.has S.vrb = false then -1 else
  (it (fun p (q : Int32 × Int32) => if S.rdy p = true ∧ ¬ S.kinds p = 0 ∧ S.minutes p < q.2 then (nI p, S.minutes p) else q) (-1, S.minutes S.vrb.toNatClampNeg) S.n).1
def cod_X3_nextInRotation : List (Nat × Op PT) := [(0, O_aload 0 1), (1, O_aload 0 1), (2, O_getf pW 3 9), (5, O_callV 1 0 (fun S => S) (fun _ S' => S') sp_X3_has), (8, O_if_ne 13), (11, O_int (-1) 1), (12, O_iret), (13, O_int (-1) 1), (14, O_istore 1 1), (15, O_aload 0 1), (16, O_getf pW 3 5), (19, O_aload 0 1), (20, O_getf pW 3 9), (23, O_ald pW 0), (24, O_istore 2 1), (25, O_int 0 1), (26, O_istore 3 1), (27, O_iload 3 1), (28, O_aload 0 1), (29, O_getf pW 3 8), (32, O_icmp_ge 77), (35, O_aload 0 1), (36, O_iload 3 1), (37, O_callV 1 0 (fun S => S) (fun _ S' => S') sp_X3_isReady), (40, O_if_eq 71), (43, O_aload 0 1), (44, O_getf pW 3 0), (47, O_iload 3 1), (48, O_ald pW 0), (49, O_if_eq 71), (52, O_aload 0 1), (53, O_getf pW 3 5), (56, O_iload 3 1), (57, O_ald pW 0), (58, O_iload 2 1), (59, O_icmp_ge 71), (62, O_iload 3 1), (63, O_istore 1 1), (64, O_aload 0 1), (65, O_getf pW 3 5), (68, O_iload 3 1), (69, O_ald pW 0), (70, O_istore 2 1), (71, O_iinc 3 1), (74, O_goto 27), (77, O_iload 1 1), (78, O_iret)]
abbrev cut_X3_nextInRotation : List Nat := [27]
set_option maxRecDepth 100000 in
theorem okc_X3_nextInRotation {E : En} (F : Fx E RX3 cX3_nextInRotation 4 1) (G : Fr E (some .int)) : CodOk E pW cod_X3_nextInRotation := by
  unfold CodOk cod_X3_nextInRotation
  refine List.forall_mem_cons.mpr ⟨ok_aload_n F dX3_nextInRotation_0 rfl (by decide), ?_⟩
  refine List.forall_mem_cons.mpr ⟨ok_aload_n F dX3_nextInRotation_1 rfl (by decide), ?_⟩
  refine List.forall_mem_cons.mpr ⟨ok_getf F flX3_37 dX3_nextInRotation_2 (by decide), ?_⟩
  refine List.forall_mem_cons.mpr ⟨ok_callV F spok_X3_has (ln_id pW) rcv_pW (by decide +kernel) (by decide) dX3_nextInRotation_5 (by decide), ?_⟩
  refine List.forall_mem_cons.mpr ⟨ok_if_ne F dX3_nextInRotation_8 (by decide) (by decide) (by decide), ?_⟩
  refine List.forall_mem_cons.mpr ⟨ok_iconst F dX3_nextInRotation_11 (by decide) (by decide), ?_⟩
  refine List.forall_mem_cons.mpr ⟨ok_iret F G dX3_nextInRotation_12 (by decide), ?_⟩
  refine List.forall_mem_cons.mpr ⟨ok_iconst F dX3_nextInRotation_13 (by decide) (by decide), ?_⟩
  refine List.forall_mem_cons.mpr ⟨ok_istore_n F dX3_nextInRotation_14 rfl (by decide) (by decide), ?_⟩
  refine List.forall_mem_cons.mpr ⟨ok_aload_n F dX3_nextInRotation_15 rfl (by decide), ?_⟩
  refine List.forall_mem_cons.mpr ⟨ok_getf F flX3_28 dX3_nextInRotation_16 (by decide), ?_⟩
  refine List.forall_mem_cons.mpr ⟨ok_aload_n F dX3_nextInRotation_19 rfl (by decide), ?_⟩
  refine List.forall_mem_cons.mpr ⟨ok_getf F flX3_37 dX3_nextInRotation_20 (by decide), ?_⟩
  refine List.forall_mem_cons.mpr ⟨ok_iald F dX3_nextInRotation_23 (by decide), ?_⟩
  refine List.forall_mem_cons.mpr ⟨ok_istore_n F dX3_nextInRotation_24 rfl (by decide) (by decide), ?_⟩
  refine List.forall_mem_cons.mpr ⟨ok_iconst F dX3_nextInRotation_25 (by decide) (by decide), ?_⟩
  refine List.forall_mem_cons.mpr ⟨ok_istore_n F dX3_nextInRotation_26 rfl (by decide) (by decide), ?_⟩
  refine List.forall_mem_cons.mpr ⟨ok_iload_n F dX3_nextInRotation_27 rfl (by decide), ?_⟩
  refine List.forall_mem_cons.mpr ⟨ok_aload_n F dX3_nextInRotation_28 rfl (by decide), ?_⟩
  refine List.forall_mem_cons.mpr ⟨ok_getf F flX3_47 dX3_nextInRotation_29 (by decide), ?_⟩
  refine List.forall_mem_cons.mpr ⟨ok_icmp_ge F dX3_nextInRotation_32 (by decide) (by decide) (by decide), ?_⟩
  refine List.forall_mem_cons.mpr ⟨ok_aload_n F dX3_nextInRotation_35 rfl (by decide), ?_⟩
  refine List.forall_mem_cons.mpr ⟨ok_iload_n F dX3_nextInRotation_36 rfl (by decide), ?_⟩
  refine List.forall_mem_cons.mpr ⟨ok_callV F spok_X3_isReady (ln_id pW) rcv_pW (by decide +kernel) (by decide) dX3_nextInRotation_37 (by decide), ?_⟩
  refine List.forall_mem_cons.mpr ⟨ok_if_eq F dX3_nextInRotation_40 (by decide) (by decide) (by decide), ?_⟩
  refine List.forall_mem_cons.mpr ⟨ok_aload_n F dX3_nextInRotation_43 rfl (by decide), ?_⟩
  refine List.forall_mem_cons.mpr ⟨ok_getf F flX3_11 dX3_nextInRotation_44 (by decide), ?_⟩
  refine List.forall_mem_cons.mpr ⟨ok_iload_n F dX3_nextInRotation_47 rfl (by decide), ?_⟩
  refine List.forall_mem_cons.mpr ⟨ok_iald F dX3_nextInRotation_48 (by decide), ?_⟩
  refine List.forall_mem_cons.mpr ⟨ok_if_eq F dX3_nextInRotation_49 (by decide) (by decide) (by decide), ?_⟩
  refine List.forall_mem_cons.mpr ⟨ok_aload_n F dX3_nextInRotation_52 rfl (by decide), ?_⟩
  refine List.forall_mem_cons.mpr ⟨ok_getf F flX3_28 dX3_nextInRotation_53 (by decide), ?_⟩
  refine List.forall_mem_cons.mpr ⟨ok_iload_n F dX3_nextInRotation_56 rfl (by decide), ?_⟩
  refine List.forall_mem_cons.mpr ⟨ok_iald F dX3_nextInRotation_57 (by decide), ?_⟩
  refine List.forall_mem_cons.mpr ⟨ok_iload_n F dX3_nextInRotation_58 rfl (by decide), ?_⟩
  refine List.forall_mem_cons.mpr ⟨ok_icmp_ge F dX3_nextInRotation_59 (by decide) (by decide) (by decide), ?_⟩
  refine List.forall_mem_cons.mpr ⟨ok_iload_n F dX3_nextInRotation_62 rfl (by decide), ?_⟩
  refine List.forall_mem_cons.mpr ⟨ok_istore_n F dX3_nextInRotation_63 rfl (by decide) (by decide), ?_⟩
  refine List.forall_mem_cons.mpr ⟨ok_aload_n F dX3_nextInRotation_64 rfl (by decide), ?_⟩
  refine List.forall_mem_cons.mpr ⟨ok_getf F flX3_28 dX3_nextInRotation_65 (by decide), ?_⟩
  refine List.forall_mem_cons.mpr ⟨ok_iload_n F dX3_nextInRotation_68 rfl (by decide), ?_⟩
  refine List.forall_mem_cons.mpr ⟨ok_iald F dX3_nextInRotation_69 (by decide), ?_⟩
  refine List.forall_mem_cons.mpr ⟨ok_istore_n F dX3_nextInRotation_70 rfl (by decide) (by decide), ?_⟩
  refine List.forall_mem_cons.mpr ⟨ok_iinc F dX3_nextInRotation_71 (by decide) (by decide) (by decide), ?_⟩
  refine List.forall_mem_cons.mpr ⟨ok_goto F dX3_nextInRotation_74 (by decide) (by decide) (by decide), ?_⟩
  refine List.forall_mem_cons.mpr ⟨ok_iload_n F dX3_nextInRotation_77 rfl (by decide), ?_⟩
  refine List.forall_mem_cons.mpr ⟨ok_iret F G dX3_nextInRotation_78 (by decide), ?_⟩
  exact fun _ h => absurd h List.not_mem_nil
set_option maxRecDepth 100000 in
theorem w_X3_nextInRotation : (∀ (K : Kt PT) (n : Nat) (L : xL) (st : List Value) (S : PT), nx cod_X3_nextInRotation cut_X3_nextInRotation K (n + 1) 0 L st S = (O_aload 0 1) (nx cod_X3_nextInRotation cut_X3_nextInRotation K n) 0 L st S) ∧
  (∀ (K : Kt PT) (n : Nat) (L : xL) (st : List Value) (S : PT), nx cod_X3_nextInRotation cut_X3_nextInRotation K (n + 1) 1 L st S = (O_aload 0 1) (nx cod_X3_nextInRotation cut_X3_nextInRotation K n) 1 L st S) ∧
  (∀ (K : Kt PT) (n : Nat) (L : xL) (st : List Value) (S : PT), nx cod_X3_nextInRotation cut_X3_nextInRotation K (n + 1) 2 L st S = (O_getf pW 3 9) (nx cod_X3_nextInRotation cut_X3_nextInRotation K n) 2 L st S) ∧
  (∀ (K : Kt PT) (n : Nat) (L : xL) (st : List Value) (S : PT), nx cod_X3_nextInRotation cut_X3_nextInRotation K (n + 1) 5 L st S = (O_callV 1 0 (fun S => S) (fun _ S' => S') sp_X3_has) (nx cod_X3_nextInRotation cut_X3_nextInRotation K n) 5 L st S) ∧
  (∀ (K : Kt PT) (n : Nat) (L : xL) (st : List Value) (S : PT), nx cod_X3_nextInRotation cut_X3_nextInRotation K (n + 1) 8 L st S = (O_if_ne 13) (nx cod_X3_nextInRotation cut_X3_nextInRotation K n) 8 L st S) ∧
  (∀ (K : Kt PT) (n : Nat) (L : xL) (st : List Value) (S : PT), nx cod_X3_nextInRotation cut_X3_nextInRotation K (n + 1) 11 L st S = (O_int (-1) 1) (nx cod_X3_nextInRotation cut_X3_nextInRotation K n) 11 L st S) ∧
  (∀ (K : Kt PT) (n : Nat) (L : xL) (st : List Value) (S : PT), nx cod_X3_nextInRotation cut_X3_nextInRotation K (n + 1) 12 L st S = (O_iret) (nx cod_X3_nextInRotation cut_X3_nextInRotation K n) 12 L st S) ∧
  (∀ (K : Kt PT) (n : Nat) (L : xL) (st : List Value) (S : PT), nx cod_X3_nextInRotation cut_X3_nextInRotation K (n + 1) 13 L st S = (O_int (-1) 1) (nx cod_X3_nextInRotation cut_X3_nextInRotation K n) 13 L st S) ∧
  (∀ (K : Kt PT) (n : Nat) (L : xL) (st : List Value) (S : PT), nx cod_X3_nextInRotation cut_X3_nextInRotation K (n + 1) 14 L st S = (O_istore 1 1) (nx cod_X3_nextInRotation cut_X3_nextInRotation K n) 14 L st S) ∧
  (∀ (K : Kt PT) (n : Nat) (L : xL) (st : List Value) (S : PT), nx cod_X3_nextInRotation cut_X3_nextInRotation K (n + 1) 15 L st S = (O_aload 0 1) (nx cod_X3_nextInRotation cut_X3_nextInRotation K n) 15 L st S) ∧
  (∀ (K : Kt PT) (n : Nat) (L : xL) (st : List Value) (S : PT), nx cod_X3_nextInRotation cut_X3_nextInRotation K (n + 1) 16 L st S = (O_getf pW 3 5) (nx cod_X3_nextInRotation cut_X3_nextInRotation K n) 16 L st S) ∧
  (∀ (K : Kt PT) (n : Nat) (L : xL) (st : List Value) (S : PT), nx cod_X3_nextInRotation cut_X3_nextInRotation K (n + 1) 19 L st S = (O_aload 0 1) (nx cod_X3_nextInRotation cut_X3_nextInRotation K n) 19 L st S) ∧
  (∀ (K : Kt PT) (n : Nat) (L : xL) (st : List Value) (S : PT), nx cod_X3_nextInRotation cut_X3_nextInRotation K (n + 1) 20 L st S = (O_getf pW 3 9) (nx cod_X3_nextInRotation cut_X3_nextInRotation K n) 20 L st S) ∧
  (∀ (K : Kt PT) (n : Nat) (L : xL) (st : List Value) (S : PT), nx cod_X3_nextInRotation cut_X3_nextInRotation K (n + 1) 23 L st S = (O_ald pW 0) (nx cod_X3_nextInRotation cut_X3_nextInRotation K n) 23 L st S) ∧
  (∀ (K : Kt PT) (n : Nat) (L : xL) (st : List Value) (S : PT), nx cod_X3_nextInRotation cut_X3_nextInRotation K (n + 1) 24 L st S = (O_istore 2 1) (nx cod_X3_nextInRotation cut_X3_nextInRotation K n) 24 L st S) ∧
  (∀ (K : Kt PT) (n : Nat) (L : xL) (st : List Value) (S : PT), nx cod_X3_nextInRotation cut_X3_nextInRotation K (n + 1) 25 L st S = (O_int 0 1) (nx cod_X3_nextInRotation cut_X3_nextInRotation K n) 25 L st S) ∧
  (∀ (K : Kt PT) (n : Nat) (L : xL) (st : List Value) (S : PT), nx cod_X3_nextInRotation cut_X3_nextInRotation K (n + 1) 26 L st S = (O_istore 3 1) (nx cod_X3_nextInRotation cut_X3_nextInRotation K n) 26 L st S) ∧
  (∀ (K : Kt PT) (n : Nat) (L : xL) (st : List Value) (S : PT), nx cod_X3_nextInRotation cut_X3_nextInRotation K (n + 1) 27 L st S = K 27 L st S) ∧
  (∀ (K : Kt PT) (n : Nat) (L : xL) (st : List Value) (S : PT), nx1 cod_X3_nextInRotation cut_X3_nextInRotation K n 27 L st S = (O_iload 3 1) (nx cod_X3_nextInRotation cut_X3_nextInRotation K n) 27 L st S) ∧
  (∀ (K : Kt PT) (n : Nat) (L : xL) (st : List Value) (S : PT), nx cod_X3_nextInRotation cut_X3_nextInRotation K (n + 1) 28 L st S = (O_aload 0 1) (nx cod_X3_nextInRotation cut_X3_nextInRotation K n) 28 L st S) ∧
  (∀ (K : Kt PT) (n : Nat) (L : xL) (st : List Value) (S : PT), nx cod_X3_nextInRotation cut_X3_nextInRotation K (n + 1) 29 L st S = (O_getf pW 3 8) (nx cod_X3_nextInRotation cut_X3_nextInRotation K n) 29 L st S) ∧
  (∀ (K : Kt PT) (n : Nat) (L : xL) (st : List Value) (S : PT), nx cod_X3_nextInRotation cut_X3_nextInRotation K (n + 1) 32 L st S = (O_icmp_ge 77) (nx cod_X3_nextInRotation cut_X3_nextInRotation K n) 32 L st S) ∧
  (∀ (K : Kt PT) (n : Nat) (L : xL) (st : List Value) (S : PT), nx cod_X3_nextInRotation cut_X3_nextInRotation K (n + 1) 35 L st S = (O_aload 0 1) (nx cod_X3_nextInRotation cut_X3_nextInRotation K n) 35 L st S) ∧
  (∀ (K : Kt PT) (n : Nat) (L : xL) (st : List Value) (S : PT), nx cod_X3_nextInRotation cut_X3_nextInRotation K (n + 1) 36 L st S = (O_iload 3 1) (nx cod_X3_nextInRotation cut_X3_nextInRotation K n) 36 L st S) ∧
  (∀ (K : Kt PT) (n : Nat) (L : xL) (st : List Value) (S : PT), nx cod_X3_nextInRotation cut_X3_nextInRotation K (n + 1) 37 L st S = (O_callV 1 0 (fun S => S) (fun _ S' => S') sp_X3_isReady) (nx cod_X3_nextInRotation cut_X3_nextInRotation K n) 37 L st S) ∧
  (∀ (K : Kt PT) (n : Nat) (L : xL) (st : List Value) (S : PT), nx cod_X3_nextInRotation cut_X3_nextInRotation K (n + 1) 40 L st S = (O_if_eq 71) (nx cod_X3_nextInRotation cut_X3_nextInRotation K n) 40 L st S) ∧
  (∀ (K : Kt PT) (n : Nat) (L : xL) (st : List Value) (S : PT), nx cod_X3_nextInRotation cut_X3_nextInRotation K (n + 1) 43 L st S = (O_aload 0 1) (nx cod_X3_nextInRotation cut_X3_nextInRotation K n) 43 L st S) ∧
  (∀ (K : Kt PT) (n : Nat) (L : xL) (st : List Value) (S : PT), nx cod_X3_nextInRotation cut_X3_nextInRotation K (n + 1) 44 L st S = (O_getf pW 3 0) (nx cod_X3_nextInRotation cut_X3_nextInRotation K n) 44 L st S) ∧
  (∀ (K : Kt PT) (n : Nat) (L : xL) (st : List Value) (S : PT), nx cod_X3_nextInRotation cut_X3_nextInRotation K (n + 1) 47 L st S = (O_iload 3 1) (nx cod_X3_nextInRotation cut_X3_nextInRotation K n) 47 L st S) ∧
  (∀ (K : Kt PT) (n : Nat) (L : xL) (st : List Value) (S : PT), nx cod_X3_nextInRotation cut_X3_nextInRotation K (n + 1) 48 L st S = (O_ald pW 0) (nx cod_X3_nextInRotation cut_X3_nextInRotation K n) 48 L st S) ∧
  (∀ (K : Kt PT) (n : Nat) (L : xL) (st : List Value) (S : PT), nx cod_X3_nextInRotation cut_X3_nextInRotation K (n + 1) 49 L st S = (O_if_eq 71) (nx cod_X3_nextInRotation cut_X3_nextInRotation K n) 49 L st S) ∧
  (∀ (K : Kt PT) (n : Nat) (L : xL) (st : List Value) (S : PT), nx cod_X3_nextInRotation cut_X3_nextInRotation K (n + 1) 52 L st S = (O_aload 0 1) (nx cod_X3_nextInRotation cut_X3_nextInRotation K n) 52 L st S) ∧
  (∀ (K : Kt PT) (n : Nat) (L : xL) (st : List Value) (S : PT), nx cod_X3_nextInRotation cut_X3_nextInRotation K (n + 1) 53 L st S = (O_getf pW 3 5) (nx cod_X3_nextInRotation cut_X3_nextInRotation K n) 53 L st S) ∧
  (∀ (K : Kt PT) (n : Nat) (L : xL) (st : List Value) (S : PT), nx cod_X3_nextInRotation cut_X3_nextInRotation K (n + 1) 56 L st S = (O_iload 3 1) (nx cod_X3_nextInRotation cut_X3_nextInRotation K n) 56 L st S) ∧
  (∀ (K : Kt PT) (n : Nat) (L : xL) (st : List Value) (S : PT), nx cod_X3_nextInRotation cut_X3_nextInRotation K (n + 1) 57 L st S = (O_ald pW 0) (nx cod_X3_nextInRotation cut_X3_nextInRotation K n) 57 L st S) ∧
  (∀ (K : Kt PT) (n : Nat) (L : xL) (st : List Value) (S : PT), nx cod_X3_nextInRotation cut_X3_nextInRotation K (n + 1) 58 L st S = (O_iload 2 1) (nx cod_X3_nextInRotation cut_X3_nextInRotation K n) 58 L st S) ∧
  (∀ (K : Kt PT) (n : Nat) (L : xL) (st : List Value) (S : PT), nx cod_X3_nextInRotation cut_X3_nextInRotation K (n + 1) 59 L st S = (O_icmp_ge 71) (nx cod_X3_nextInRotation cut_X3_nextInRotation K n) 59 L st S) ∧
  (∀ (K : Kt PT) (n : Nat) (L : xL) (st : List Value) (S : PT), nx cod_X3_nextInRotation cut_X3_nextInRotation K (n + 1) 62 L st S = (O_iload 3 1) (nx cod_X3_nextInRotation cut_X3_nextInRotation K n) 62 L st S) ∧
  (∀ (K : Kt PT) (n : Nat) (L : xL) (st : List Value) (S : PT), nx cod_X3_nextInRotation cut_X3_nextInRotation K (n + 1) 63 L st S = (O_istore 1 1) (nx cod_X3_nextInRotation cut_X3_nextInRotation K n) 63 L st S) ∧
  (∀ (K : Kt PT) (n : Nat) (L : xL) (st : List Value) (S : PT), nx cod_X3_nextInRotation cut_X3_nextInRotation K (n + 1) 64 L st S = (O_aload 0 1) (nx cod_X3_nextInRotation cut_X3_nextInRotation K n) 64 L st S) ∧
  (∀ (K : Kt PT) (n : Nat) (L : xL) (st : List Value) (S : PT), nx cod_X3_nextInRotation cut_X3_nextInRotation K (n + 1) 65 L st S = (O_getf pW 3 5) (nx cod_X3_nextInRotation cut_X3_nextInRotation K n) 65 L st S) ∧
  (∀ (K : Kt PT) (n : Nat) (L : xL) (st : List Value) (S : PT), nx cod_X3_nextInRotation cut_X3_nextInRotation K (n + 1) 68 L st S = (O_iload 3 1) (nx cod_X3_nextInRotation cut_X3_nextInRotation K n) 68 L st S) ∧
  (∀ (K : Kt PT) (n : Nat) (L : xL) (st : List Value) (S : PT), nx cod_X3_nextInRotation cut_X3_nextInRotation K (n + 1) 69 L st S = (O_ald pW 0) (nx cod_X3_nextInRotation cut_X3_nextInRotation K n) 69 L st S) ∧
  (∀ (K : Kt PT) (n : Nat) (L : xL) (st : List Value) (S : PT), nx cod_X3_nextInRotation cut_X3_nextInRotation K (n + 1) 70 L st S = (O_istore 2 1) (nx cod_X3_nextInRotation cut_X3_nextInRotation K n) 70 L st S) ∧
  (∀ (K : Kt PT) (n : Nat) (L : xL) (st : List Value) (S : PT), nx cod_X3_nextInRotation cut_X3_nextInRotation K (n + 1) 71 L st S = (O_iinc 3 1) (nx cod_X3_nextInRotation cut_X3_nextInRotation K n) 71 L st S) ∧
  (∀ (K : Kt PT) (n : Nat) (L : xL) (st : List Value) (S : PT), nx cod_X3_nextInRotation cut_X3_nextInRotation K (n + 1) 74 L st S = (O_goto 27) (nx cod_X3_nextInRotation cut_X3_nextInRotation K n) 74 L st S) ∧
  (∀ (K : Kt PT) (n : Nat) (L : xL) (st : List Value) (S : PT), nx cod_X3_nextInRotation cut_X3_nextInRotation K (n + 1) 77 L st S = (O_iload 1 1) (nx cod_X3_nextInRotation cut_X3_nextInRotation K n) 77 L st S) ∧
  (∀ (K : Kt PT) (n : Nat) (L : xL) (st : List Value) (S : PT), nx cod_X3_nextInRotation cut_X3_nextInRotation K (n + 1) 78 L st S = (O_iret) (nx cod_X3_nextInRotation cut_X3_nextInRotation K n) 78 L st S) ∧
  (∀ (K : Kt PT) (n : Nat) (L : xL) (st : List Value) (S : PT), nx cod_X3_nextInRotation cut_X3_nextInRotation K (n + 1) 100000 L st S = K 100000 L st S) := by
  repeat' apply And.intro
  all_goals (intros; rfl)
set_option maxRecDepth 100000 in
theorem mk_X3_nextInRotation {P P' : PT} {r : Option Value}  (body : ∀ E : En, CodOk E pW cod_X3_nextInRotation → Gd E pW 100000 [] r.toList P' → Gd E pW 0 [some (.ref 0), none, none, none] [] P) : Con yX3_nextInRotation cX3_nextInRotation 4 (some .int) 1 pW [.ref 0] P r P' :=
  Con.of (by decide) rfl rfl (Nat.le_of_ble_eq_true rfl) (fun E F G hr => body E (okc_X3_nextInRotation F G) hr)
theorem con_X3_nextInRotation (S : PT)  (hp : S.ok) : Con yX3_nextInRotation cX3_nextInRotation 4 (some .int) 1 pW [.ref 0] S (some (.int (S.nextRot))) (S) := by
  refine mk_X3_nextInRotation (fun E C hr => ?_)
  have hv := PT.has_in (p := S.vrb) hp
  (refine nx_ok C (cuts := cut_X3_nextInRotation) 1000 _ _ _ _ ?_; simp only [w_X3_nextInRotation, ops_eq, xst_eq, call_eq, oK_eq, Option.toList_some, Option.toList_none, List.cons_append, List.nil_append, List.length_cons, List.length_nil, true_and, and_true, Nat.reduceAdd, pW_F, pW_A, pW_S, pW_P, PT_gs, se_X3_has, se_X3_isReady, bI_eq])
  have key : S.has S.vrb = true → Gd E pW 27 [some (.ref 0), some (.int (-1)), some (.int (S.minutes S.vrb.toNatClampNeg)), some (.int (nI 0))] [] S := by
    intro hh
    refine it_up (f := fun p (q : Int32 × Int32) => if S.rdy p = true ∧ ¬ S.kinds p = 0 ∧ S.minutes p < q.2 then (nI p, S.minutes p) else q) (n := S.n) (a := (-1, S.minutes S.vrb.toNatClampNeg)) (fun _ _ => True) (fun i q => Gd E pW 27 [some (.ref 0), some (.int q.1), some (.int q.2), some (.int (nI i))] [] S) trivial (fun _ _ _ _ => trivial) (fun i b hi hb hn => ?_) ?_
    · have hx := ixs hp hi
      (refine nx1_ok C cut_X3_nextInRotation 1000 ?_; simp only [w_X3_nextInRotation, ops_eq, xst_eq, call_eq, oK_eq, Option.toList_some, Option.toList_none, List.cons_append, List.nil_append, List.length_cons, List.length_nil, true_and, and_true, Nat.reduceAdd, pW_F, pW_A, pW_S, pW_P, PT_gs, se_X3_has, se_X3_isReady, hx, bI_eq])
      ((repeat' (with_reducible first | apply And.intro | intro _)) <;> simp_all [PT_gs])
    · have hx := ixe hp
      (refine nx1_ok C cut_X3_nextInRotation 1000 ?_; simp only [w_X3_nextInRotation, ops_eq, xst_eq, call_eq, oK_eq, Option.toList_some, Option.toList_none, List.cons_append, List.nil_append, List.length_cons, List.length_nil, true_and, and_true, Nat.reduceAdd, pW_F, pW_A, pW_S, pW_P, PT_gs, se_X3_has, se_X3_isReady, hx])
      ((repeat' (with_reducible first | apply And.intro | intro _)) <;> simp_all [PT.nextRot, PT_gs])
  ((repeat' (with_reducible first | apply And.intro | intro _)) <;> simp_all [PT.nextRot, nI_0, PT_gs])
def sp_X3_nextInRotation : Sp PT := fun av S K => match av with
  | [.ref 0] => (S.ok) ∧ K (some (.int (S.nextRot))) (S)
  | _ => False
theorem se_X3_nextInRotation  (S : PT) (K : Option Value → PT → Prop) : sp_X3_nextInRotation [.ref 0] S K = ((S.ok) ∧ K (some (.int (S.nextRot))) (S)) := rfl
theorem spok_X3_nextInRotation : SpOk yX3_nextInRotation cX3_nextInRotation 4 (some .int) 1 pW sp_X3_nextInRotation := by
  intro av S K h
  unfold sp_X3_nextInRotation at h
  split at h
  · exact ⟨some (.int (S.nextRot)), S, trivial, con_X3_nextInRotation S  h.1, h.2⟩
  · exact h.elim
def PT.add (S : PT) (k s t : Int32) : PT := ((((S.sKinds (upd S.kinds S.n k)).sShutoffs (upd S.shutoffs S.n s)).sSteeps (upd S.steeps S.n t)).sInService (upd S.inService S.n 1)).sSize (S.size + 1)
theorem flX3_15 : fldOk RX3 15 3 1 = true := by decide +kernel
theorem flX3_18 : fldOk RX3 18 3 2 = true := by decide +kernel
def cod_X3_add : List (Nat × Op PT) := [(0, O_aload 0 1), (1, O_getf pW 3 8), (4, O_int 6 2), (6, O_icmp_lt 11), (9, O_int (-1) 1), (10, O_iret), (11, O_aload 0 1), (12, O_getf pW 3 0), (15, O_aload 0 1), (16, O_getf pW 3 8), (19, O_iload 1 1), (20, O_ast pW 0 pW_sa), (21, O_aload 0 1), (22, O_getf pW 3 1), (25, O_aload 0 1), (26, O_getf pW 3 8), (29, O_iload 2 1), (30, O_ast pW 0 pW_sa), (31, O_aload 0 1), (32, O_getf pW 3 2), (35, O_aload 0 1), (36, O_getf pW 3 8), (39, O_iload 3 1), (40, O_ast pW 0 pW_sa), (41, O_aload 0 1), (42, O_getf pW 3 3), (45, O_aload 0 1), (46, O_getf pW 3 8), (49, O_int 1 1), (50, O_ast pW 1 pW_sa), (51, O_aload 0 1), (52, O_dup), (53, O_getf pW 3 8), (56, O_int 1 1), (57, O_iadd), (58, O_puti pW_p3_8), (61, O_aload 0 1), (62, O_getf pW 3 8), (65, O_int 1 1), (66, O_isub), (67, O_iret)]
abbrev cut_X3_add : List Nat := []
set_option maxRecDepth 100000 in
theorem okc_X3_add {E : En} (F : Fx E RX3 cX3_add 4 0) (G : Fr E (some .int)) : CodOk E pW cod_X3_add := by
  unfold CodOk cod_X3_add
  refine List.forall_mem_cons.mpr ⟨ok_aload_n F dX3_add_0 rfl (by decide), ?_⟩
  refine List.forall_mem_cons.mpr ⟨ok_getf F flX3_47 dX3_add_1 (by decide), ?_⟩
  refine List.forall_mem_cons.mpr ⟨ok_bipush F dX3_add_4 (by decide) (by decide), ?_⟩
  refine List.forall_mem_cons.mpr ⟨ok_icmp_lt F dX3_add_6 (by decide) (by decide) (by decide), ?_⟩
  refine List.forall_mem_cons.mpr ⟨ok_iconst F dX3_add_9 (by decide) (by decide), ?_⟩
  refine List.forall_mem_cons.mpr ⟨ok_iret F G dX3_add_10 (by decide), ?_⟩
  refine List.forall_mem_cons.mpr ⟨ok_aload_n F dX3_add_11 rfl (by decide), ?_⟩
  refine List.forall_mem_cons.mpr ⟨ok_getf F flX3_11 dX3_add_12 (by decide), ?_⟩
  refine List.forall_mem_cons.mpr ⟨ok_aload_n F dX3_add_15 rfl (by decide), ?_⟩
  refine List.forall_mem_cons.mpr ⟨ok_getf F flX3_47 dX3_add_16 (by decide), ?_⟩
  refine List.forall_mem_cons.mpr ⟨ok_iload_n F dX3_add_19 rfl (by decide), ?_⟩
  refine List.forall_mem_cons.mpr ⟨ok_iast F pW_sar dX3_add_20 (by decide), ?_⟩
  refine List.forall_mem_cons.mpr ⟨ok_aload_n F dX3_add_21 rfl (by decide), ?_⟩
  refine List.forall_mem_cons.mpr ⟨ok_getf F flX3_15 dX3_add_22 (by decide), ?_⟩
  refine List.forall_mem_cons.mpr ⟨ok_aload_n F dX3_add_25 rfl (by decide), ?_⟩
  refine List.forall_mem_cons.mpr ⟨ok_getf F flX3_47 dX3_add_26 (by decide), ?_⟩
  refine List.forall_mem_cons.mpr ⟨ok_iload_n F dX3_add_29 rfl (by decide), ?_⟩
  refine List.forall_mem_cons.mpr ⟨ok_iast F pW_sar dX3_add_30 (by decide), ?_⟩
  refine List.forall_mem_cons.mpr ⟨ok_aload_n F dX3_add_31 rfl (by decide), ?_⟩
  refine List.forall_mem_cons.mpr ⟨ok_getf F flX3_18 dX3_add_32 (by decide), ?_⟩
  refine List.forall_mem_cons.mpr ⟨ok_aload_n F dX3_add_35 rfl (by decide), ?_⟩
  refine List.forall_mem_cons.mpr ⟨ok_getf F flX3_47 dX3_add_36 (by decide), ?_⟩
  refine List.forall_mem_cons.mpr ⟨ok_iload_n F dX3_add_39 rfl (by decide), ?_⟩
  refine List.forall_mem_cons.mpr ⟨ok_iast F pW_sar dX3_add_40 (by decide), ?_⟩
  refine List.forall_mem_cons.mpr ⟨ok_aload_n F dX3_add_41 rfl (by decide), ?_⟩
  refine List.forall_mem_cons.mpr ⟨ok_getf F flX3_21 dX3_add_42 (by decide), ?_⟩
  refine List.forall_mem_cons.mpr ⟨ok_aload_n F dX3_add_45 rfl (by decide), ?_⟩
  refine List.forall_mem_cons.mpr ⟨ok_getf F flX3_47 dX3_add_46 (by decide), ?_⟩
  refine List.forall_mem_cons.mpr ⟨ok_iconst F dX3_add_49 (by decide) (by decide), ?_⟩
  refine List.forall_mem_cons.mpr ⟨ok_zast F pW_sar dX3_add_50 (by decide), ?_⟩
  refine List.forall_mem_cons.mpr ⟨ok_aload_n F dX3_add_51 rfl (by decide), ?_⟩
  refine List.forall_mem_cons.mpr ⟨ok_dup F dX3_add_52 (by decide), ?_⟩
  refine List.forall_mem_cons.mpr ⟨ok_getf F flX3_47 dX3_add_53 (by decide), ?_⟩
  refine List.forall_mem_cons.mpr ⟨ok_iconst F dX3_add_56 (by decide) (by decide), ?_⟩
  refine List.forall_mem_cons.mpr ⟨ok_iadd F dX3_add_57 (by decide), ?_⟩
  refine List.forall_mem_cons.mpr ⟨ok_puti F pW_p3_8_ok (fun _ _ _ h => by cases h; rfl) rfl flX3_47 dX3_add_58 (by decide), ?_⟩
  refine List.forall_mem_cons.mpr ⟨ok_aload_n F dX3_add_61 rfl (by decide), ?_⟩
  refine List.forall_mem_cons.mpr ⟨ok_getf F flX3_47 dX3_add_62 (by decide), ?_⟩
  refine List.forall_mem_cons.mpr ⟨ok_iconst F dX3_add_65 (by decide) (by decide), ?_⟩
  refine List.forall_mem_cons.mpr ⟨ok_isub F dX3_add_66 (by decide), ?_⟩
  refine List.forall_mem_cons.mpr ⟨ok_iret F G dX3_add_67 (by decide), ?_⟩
  exact fun _ h => absurd h List.not_mem_nil
set_option maxRecDepth 100000 in
theorem w_X3_add : (∀ (K : Kt PT) (n : Nat) (L : xL) (st : List Value) (S : PT), nx cod_X3_add cut_X3_add K (n + 1) 0 L st S = (O_aload 0 1) (nx cod_X3_add cut_X3_add K n) 0 L st S) ∧
  (∀ (K : Kt PT) (n : Nat) (L : xL) (st : List Value) (S : PT), nx cod_X3_add cut_X3_add K (n + 1) 1 L st S = (O_getf pW 3 8) (nx cod_X3_add cut_X3_add K n) 1 L st S) ∧
  (∀ (K : Kt PT) (n : Nat) (L : xL) (st : List Value) (S : PT), nx cod_X3_add cut_X3_add K (n + 1) 4 L st S = (O_int 6 2) (nx cod_X3_add cut_X3_add K n) 4 L st S) ∧
  (∀ (K : Kt PT) (n : Nat) (L : xL) (st : List Value) (S : PT), nx cod_X3_add cut_X3_add K (n + 1) 6 L st S = (O_icmp_lt 11) (nx cod_X3_add cut_X3_add K n) 6 L st S) ∧
  (∀ (K : Kt PT) (n : Nat) (L : xL) (st : List Value) (S : PT), nx cod_X3_add cut_X3_add K (n + 1) 9 L st S = (O_int (-1) 1) (nx cod_X3_add cut_X3_add K n) 9 L st S) ∧
  (∀ (K : Kt PT) (n : Nat) (L : xL) (st : List Value) (S : PT), nx cod_X3_add cut_X3_add K (n + 1) 10 L st S = (O_iret) (nx cod_X3_add cut_X3_add K n) 10 L st S) ∧
  (∀ (K : Kt PT) (n : Nat) (L : xL) (st : List Value) (S : PT), nx cod_X3_add cut_X3_add K (n + 1) 11 L st S = (O_aload 0 1) (nx cod_X3_add cut_X3_add K n) 11 L st S) ∧
  (∀ (K : Kt PT) (n : Nat) (L : xL) (st : List Value) (S : PT), nx cod_X3_add cut_X3_add K (n + 1) 12 L st S = (O_getf pW 3 0) (nx cod_X3_add cut_X3_add K n) 12 L st S) ∧
  (∀ (K : Kt PT) (n : Nat) (L : xL) (st : List Value) (S : PT), nx cod_X3_add cut_X3_add K (n + 1) 15 L st S = (O_aload 0 1) (nx cod_X3_add cut_X3_add K n) 15 L st S) ∧
  (∀ (K : Kt PT) (n : Nat) (L : xL) (st : List Value) (S : PT), nx cod_X3_add cut_X3_add K (n + 1) 16 L st S = (O_getf pW 3 8) (nx cod_X3_add cut_X3_add K n) 16 L st S) ∧
  (∀ (K : Kt PT) (n : Nat) (L : xL) (st : List Value) (S : PT), nx cod_X3_add cut_X3_add K (n + 1) 19 L st S = (O_iload 1 1) (nx cod_X3_add cut_X3_add K n) 19 L st S) ∧
  (∀ (K : Kt PT) (n : Nat) (L : xL) (st : List Value) (S : PT), nx cod_X3_add cut_X3_add K (n + 1) 20 L st S = (O_ast pW 0 pW_sa) (nx cod_X3_add cut_X3_add K n) 20 L st S) ∧
  (∀ (K : Kt PT) (n : Nat) (L : xL) (st : List Value) (S : PT), nx cod_X3_add cut_X3_add K (n + 1) 21 L st S = (O_aload 0 1) (nx cod_X3_add cut_X3_add K n) 21 L st S) ∧
  (∀ (K : Kt PT) (n : Nat) (L : xL) (st : List Value) (S : PT), nx cod_X3_add cut_X3_add K (n + 1) 22 L st S = (O_getf pW 3 1) (nx cod_X3_add cut_X3_add K n) 22 L st S) ∧
  (∀ (K : Kt PT) (n : Nat) (L : xL) (st : List Value) (S : PT), nx cod_X3_add cut_X3_add K (n + 1) 25 L st S = (O_aload 0 1) (nx cod_X3_add cut_X3_add K n) 25 L st S) ∧
  (∀ (K : Kt PT) (n : Nat) (L : xL) (st : List Value) (S : PT), nx cod_X3_add cut_X3_add K (n + 1) 26 L st S = (O_getf pW 3 8) (nx cod_X3_add cut_X3_add K n) 26 L st S) ∧
  (∀ (K : Kt PT) (n : Nat) (L : xL) (st : List Value) (S : PT), nx cod_X3_add cut_X3_add K (n + 1) 29 L st S = (O_iload 2 1) (nx cod_X3_add cut_X3_add K n) 29 L st S) ∧
  (∀ (K : Kt PT) (n : Nat) (L : xL) (st : List Value) (S : PT), nx cod_X3_add cut_X3_add K (n + 1) 30 L st S = (O_ast pW 0 pW_sa) (nx cod_X3_add cut_X3_add K n) 30 L st S) ∧
  (∀ (K : Kt PT) (n : Nat) (L : xL) (st : List Value) (S : PT), nx cod_X3_add cut_X3_add K (n + 1) 31 L st S = (O_aload 0 1) (nx cod_X3_add cut_X3_add K n) 31 L st S) ∧
  (∀ (K : Kt PT) (n : Nat) (L : xL) (st : List Value) (S : PT), nx cod_X3_add cut_X3_add K (n + 1) 32 L st S = (O_getf pW 3 2) (nx cod_X3_add cut_X3_add K n) 32 L st S) ∧
  (∀ (K : Kt PT) (n : Nat) (L : xL) (st : List Value) (S : PT), nx cod_X3_add cut_X3_add K (n + 1) 35 L st S = (O_aload 0 1) (nx cod_X3_add cut_X3_add K n) 35 L st S) ∧
  (∀ (K : Kt PT) (n : Nat) (L : xL) (st : List Value) (S : PT), nx cod_X3_add cut_X3_add K (n + 1) 36 L st S = (O_getf pW 3 8) (nx cod_X3_add cut_X3_add K n) 36 L st S) ∧
  (∀ (K : Kt PT) (n : Nat) (L : xL) (st : List Value) (S : PT), nx cod_X3_add cut_X3_add K (n + 1) 39 L st S = (O_iload 3 1) (nx cod_X3_add cut_X3_add K n) 39 L st S) ∧
  (∀ (K : Kt PT) (n : Nat) (L : xL) (st : List Value) (S : PT), nx cod_X3_add cut_X3_add K (n + 1) 40 L st S = (O_ast pW 0 pW_sa) (nx cod_X3_add cut_X3_add K n) 40 L st S) ∧
  (∀ (K : Kt PT) (n : Nat) (L : xL) (st : List Value) (S : PT), nx cod_X3_add cut_X3_add K (n + 1) 41 L st S = (O_aload 0 1) (nx cod_X3_add cut_X3_add K n) 41 L st S) ∧
  (∀ (K : Kt PT) (n : Nat) (L : xL) (st : List Value) (S : PT), nx cod_X3_add cut_X3_add K (n + 1) 42 L st S = (O_getf pW 3 3) (nx cod_X3_add cut_X3_add K n) 42 L st S) ∧
  (∀ (K : Kt PT) (n : Nat) (L : xL) (st : List Value) (S : PT), nx cod_X3_add cut_X3_add K (n + 1) 45 L st S = (O_aload 0 1) (nx cod_X3_add cut_X3_add K n) 45 L st S) ∧
  (∀ (K : Kt PT) (n : Nat) (L : xL) (st : List Value) (S : PT), nx cod_X3_add cut_X3_add K (n + 1) 46 L st S = (O_getf pW 3 8) (nx cod_X3_add cut_X3_add K n) 46 L st S) ∧
  (∀ (K : Kt PT) (n : Nat) (L : xL) (st : List Value) (S : PT), nx cod_X3_add cut_X3_add K (n + 1) 49 L st S = (O_int 1 1) (nx cod_X3_add cut_X3_add K n) 49 L st S) ∧
  (∀ (K : Kt PT) (n : Nat) (L : xL) (st : List Value) (S : PT), nx cod_X3_add cut_X3_add K (n + 1) 50 L st S = (O_ast pW 1 pW_sa) (nx cod_X3_add cut_X3_add K n) 50 L st S) ∧
  (∀ (K : Kt PT) (n : Nat) (L : xL) (st : List Value) (S : PT), nx cod_X3_add cut_X3_add K (n + 1) 51 L st S = (O_aload 0 1) (nx cod_X3_add cut_X3_add K n) 51 L st S) ∧
  (∀ (K : Kt PT) (n : Nat) (L : xL) (st : List Value) (S : PT), nx cod_X3_add cut_X3_add K (n + 1) 52 L st S = (O_dup) (nx cod_X3_add cut_X3_add K n) 52 L st S) ∧
  (∀ (K : Kt PT) (n : Nat) (L : xL) (st : List Value) (S : PT), nx cod_X3_add cut_X3_add K (n + 1) 53 L st S = (O_getf pW 3 8) (nx cod_X3_add cut_X3_add K n) 53 L st S) ∧
  (∀ (K : Kt PT) (n : Nat) (L : xL) (st : List Value) (S : PT), nx cod_X3_add cut_X3_add K (n + 1) 56 L st S = (O_int 1 1) (nx cod_X3_add cut_X3_add K n) 56 L st S) ∧
  (∀ (K : Kt PT) (n : Nat) (L : xL) (st : List Value) (S : PT), nx cod_X3_add cut_X3_add K (n + 1) 57 L st S = (O_iadd) (nx cod_X3_add cut_X3_add K n) 57 L st S) ∧
  (∀ (K : Kt PT) (n : Nat) (L : xL) (st : List Value) (S : PT), nx cod_X3_add cut_X3_add K (n + 1) 58 L st S = (O_puti pW_p3_8) (nx cod_X3_add cut_X3_add K n) 58 L st S) ∧
  (∀ (K : Kt PT) (n : Nat) (L : xL) (st : List Value) (S : PT), nx cod_X3_add cut_X3_add K (n + 1) 61 L st S = (O_aload 0 1) (nx cod_X3_add cut_X3_add K n) 61 L st S) ∧
  (∀ (K : Kt PT) (n : Nat) (L : xL) (st : List Value) (S : PT), nx cod_X3_add cut_X3_add K (n + 1) 62 L st S = (O_getf pW 3 8) (nx cod_X3_add cut_X3_add K n) 62 L st S) ∧
  (∀ (K : Kt PT) (n : Nat) (L : xL) (st : List Value) (S : PT), nx cod_X3_add cut_X3_add K (n + 1) 65 L st S = (O_int 1 1) (nx cod_X3_add cut_X3_add K n) 65 L st S) ∧
  (∀ (K : Kt PT) (n : Nat) (L : xL) (st : List Value) (S : PT), nx cod_X3_add cut_X3_add K (n + 1) 66 L st S = (O_isub) (nx cod_X3_add cut_X3_add K n) 66 L st S) ∧
  (∀ (K : Kt PT) (n : Nat) (L : xL) (st : List Value) (S : PT), nx cod_X3_add cut_X3_add K (n + 1) 67 L st S = (O_iret) (nx cod_X3_add cut_X3_add K n) 67 L st S) ∧
  (∀ (K : Kt PT) (n : Nat) (L : xL) (st : List Value) (S : PT), nx cod_X3_add cut_X3_add K (n + 1) 100000 L st S = K 100000 L st S) := by
  repeat' apply And.intro
  all_goals (intros; rfl)
set_option maxRecDepth 100000 in
theorem mk_X3_add {P P' : PT} {r : Option Value} {p0 : Int32} {p1 : Int32} {p2 : Int32} (body : ∀ E : En, CodOk E pW cod_X3_add → Gd E pW 100000 [] r.toList P' → Gd E pW 0 [some (.ref 0), some (.int p0), some (.int p1), some (.int p2)] [] P) : Con yX3_add cX3_add 4 (some .int) 0 pW [.ref 0, .int p0, .int p1, .int p2] P r P' :=
  Con.of (by decide) rfl rfl (Nat.le_of_ble_eq_true rfl) (fun E F G hr => body E (okc_X3_add F G) hr)
theorem con_X3_add (S : PT) (k : Int32) (s : Int32) (t : Int32) (hp : S.ok ∧ S.size < 6) : Con yX3_add cX3_add 4 (some .int) 0 pW [.ref 0, .int k, .int s, .int t] S (some (.int (S.size))) (S.add k s t) := by
  refine mk_X3_add (fun E C hr => ?_)
  have hn : vp_in S.size 6 := by
    obtain ⟨⟨h1, h2, h3⟩, h4⟩ := hp
    rw [h1, show (6 : Int32) = nI 6 from rfl, nI_ltI (by omega) (by omega)] at h4
    rw [h1]
    exact vp_in_nI h4 (by omega)
  have hs := hp.2
  (refine nx_ok C (cuts := cut_X3_add) 1000 _ _ _ _ ?_; simp only [w_X3_add, ops_eq, xst_eq, call_eq, oK_eq, Option.toList_some, Option.toList_none, List.cons_append, List.nil_append, List.length_cons, List.length_nil, true_and, and_true, Nat.reduceAdd, pW_F, pW_A, pW_S, pW_P, PT_gs, bI_eq, show vp_nar .boolean 1 = 1 from rfl])
  ((repeat' (with_reducible first | apply And.intro | intro _)) <;> simp_all [PT.add, PT.n, Int32.add_sub_cancel, PT_gs])
def sp_X3_add : Sp PT := fun av S K => match av with
  | [.ref 0, .int k, .int s, .int t] => (S.ok ∧ S.size < 6) ∧ K (some (.int (S.size))) (S.add k s t)
  | _ => False
theorem se_X3_add (k : Int32) (s : Int32) (t : Int32) (S : PT) (K : Option Value → PT → Prop) : sp_X3_add [.ref 0, .int k, .int s, .int t] S K = ((S.ok ∧ S.size < 6) ∧ K (some (.int (S.size))) (S.add k s t)) := rfl
theorem spok_X3_add : SpOk yX3_add cX3_add 4 (some .int) 0 pW sp_X3_add := by
  intro av S K h
  unfold sp_X3_add at h
  split at h
  · rename_i k s t; exact ⟨some (.int (S.size)), S.add k s t, trivial, con_X3_add S k s t h.1, h.2⟩
  · exact h.elim
