/-! ===== the reference: minutes, passing, foreseeing, resets ===== -/
theorem inL_lit : (∀ v : Int32, inL v.toInt64 1 240 = inR v 1 240) ∧
  (∀ v : Int32, inL v.toInt64 1 1440 = inR v 1 1440) ∧
  (∀ v : Int32, inL v.toInt64 0 4 = inR v 0 4) ∧
  (∀ v : Int32, inL v.toInt64 0 7 = inR v 0 7) ∧
  (∀ v : Int32, inL v.toInt64 0 2 = inR v 0 2) ∧
  (∀ v : Int32, inL v.toInt64 100 2000 = inR v 100 2000) ∧
  (∀ v : Int32, inL v.toInt64 1 1000 = inR v 1 1000) ∧
  (∀ v : Int32, inL v.toInt64 0 1 = inR v 0 1) ∧
  (∀ v : Int32, inL v.toInt64 0 1439 = inR v 0 1439) ∧
  (∀ v : Int32, inL v.toInt64 0 9 = inR v 0 9) ∧
  (∀ v : Int32, inL v.toInt64 0 14 = inR v 0 14) ∧
  (∀ v : Int32, inL v.toInt64 20 38 = inR v 20 38) ∧
  (∀ v : Int32, inL v.toInt64 300 1000 = inR v 300 1000) ∧
  (∀ v : Int32, inL v.toInt64 0 2000 = inR v 0 2000) ∧
  (∀ v : Int32, inL v.toInt64 0 3 = inR v 0 3) ∧
  (∀ v : Int32, inL v.toInt64 0 1000 = inR v 0 1000) ∧
  (∀ v : Int32, inL v.toInt64 0 20000 = inR v 0 20000) ∧
  (∀ v : Int32, inL v.toInt64 48 57 = inR v 48 57) ∧
  (∀ v : Int32, inL v.toInt64 100 900 = inR v 100 900) ∧
  (∀ v : Int32, inL v.toInt64 1 100 = inR v 1 100) ∧
  (∀ v : Int32, inL v.toInt64 0 100 = inR v 0 100) ∧
  (∀ v : Int32, inL v.toInt64 1 500 = inR v 1 500) ∧
  (∀ v : Int32, inL v.toInt64 300 900 = inR v 300 900) ∧
  (∀ v : Int32, inL v.toInt64 1 60 = inR v 1 60) ∧
  (∀ v : Int32, inL v.toInt64 1 300 = inR v 1 300) ∧
  (∀ v : Int32, inL v.toInt64 1 200 = inR v 1 200) ∧
  (∀ v : Int32, inL v.toInt64 0 10000 = inR v 0 10000) ∧
  (∀ v : Int32, inL v.toInt64 1 600 = inR v 1 600) ∧
  (∀ v : Int32, inL v.toInt64 0 100000 = inR v 0 100000) ∧
  (∀ v : Int32, inL v.toInt64 0 1440 = inR v 0 1440) ∧
  (∀ v : Int32, inL v.toInt64 32 126 = inR v 32 126) := by
  refine ⟨?_, ?_, ?_, ?_, ?_, ?_, ?_, ?_, ?_, ?_, ?_, ?_, ?_, ?_, ?_, ?_, ?_, ?_, ?_, ?_, ?_, ?_, ?_, ?_, ?_, ?_, ?_, ?_, ?_, ?_, ?_⟩
  · intro v; rw [show (1 : Int64) = (1 : Int32).toInt64 from rfl, show (240 : Int64) = (240 : Int32).toInt64 from rfl, inL_eq]
  · intro v; rw [show (1 : Int64) = (1 : Int32).toInt64 from rfl, show (1440 : Int64) = (1440 : Int32).toInt64 from rfl, inL_eq]
  · intro v; rw [show (0 : Int64) = (0 : Int32).toInt64 from rfl, show (4 : Int64) = (4 : Int32).toInt64 from rfl, inL_eq]
  · intro v; rw [show (0 : Int64) = (0 : Int32).toInt64 from rfl, show (7 : Int64) = (7 : Int32).toInt64 from rfl, inL_eq]
  · intro v; rw [show (0 : Int64) = (0 : Int32).toInt64 from rfl, show (2 : Int64) = (2 : Int32).toInt64 from rfl, inL_eq]
  · intro v; rw [show (100 : Int64) = (100 : Int32).toInt64 from rfl, show (2000 : Int64) = (2000 : Int32).toInt64 from rfl, inL_eq]
  · intro v; rw [show (1 : Int64) = (1 : Int32).toInt64 from rfl, show (1000 : Int64) = (1000 : Int32).toInt64 from rfl, inL_eq]
  · intro v; rw [show (0 : Int64) = (0 : Int32).toInt64 from rfl, show (1 : Int64) = (1 : Int32).toInt64 from rfl, inL_eq]
  · intro v; rw [show (0 : Int64) = (0 : Int32).toInt64 from rfl, show (1439 : Int64) = (1439 : Int32).toInt64 from rfl, inL_eq]
  · intro v; rw [show (0 : Int64) = (0 : Int32).toInt64 from rfl, show (9 : Int64) = (9 : Int32).toInt64 from rfl, inL_eq]
  · intro v; rw [show (0 : Int64) = (0 : Int32).toInt64 from rfl, show (14 : Int64) = (14 : Int32).toInt64 from rfl, inL_eq]
  · intro v; rw [show (20 : Int64) = (20 : Int32).toInt64 from rfl, show (38 : Int64) = (38 : Int32).toInt64 from rfl, inL_eq]
  · intro v; rw [show (300 : Int64) = (300 : Int32).toInt64 from rfl, show (1000 : Int64) = (1000 : Int32).toInt64 from rfl, inL_eq]
  · intro v; rw [show (0 : Int64) = (0 : Int32).toInt64 from rfl, show (2000 : Int64) = (2000 : Int32).toInt64 from rfl, inL_eq]
  · intro v; rw [show (0 : Int64) = (0 : Int32).toInt64 from rfl, show (3 : Int64) = (3 : Int32).toInt64 from rfl, inL_eq]
  · intro v; rw [show (0 : Int64) = (0 : Int32).toInt64 from rfl, show (1000 : Int64) = (1000 : Int32).toInt64 from rfl, inL_eq]
  · intro v; rw [show (0 : Int64) = (0 : Int32).toInt64 from rfl, show (20000 : Int64) = (20000 : Int32).toInt64 from rfl, inL_eq]
  · intro v; rw [show (48 : Int64) = (48 : Int32).toInt64 from rfl, show (57 : Int64) = (57 : Int32).toInt64 from rfl, inL_eq]
  · intro v; rw [show (100 : Int64) = (100 : Int32).toInt64 from rfl, show (900 : Int64) = (900 : Int32).toInt64 from rfl, inL_eq]
  · intro v; rw [show (1 : Int64) = (1 : Int32).toInt64 from rfl, show (100 : Int64) = (100 : Int32).toInt64 from rfl, inL_eq]
  · intro v; rw [show (0 : Int64) = (0 : Int32).toInt64 from rfl, show (100 : Int64) = (100 : Int32).toInt64 from rfl, inL_eq]
  · intro v; rw [show (1 : Int64) = (1 : Int32).toInt64 from rfl, show (500 : Int64) = (500 : Int32).toInt64 from rfl, inL_eq]
  · intro v; rw [show (300 : Int64) = (300 : Int32).toInt64 from rfl, show (900 : Int64) = (900 : Int32).toInt64 from rfl, inL_eq]
  · intro v; rw [show (1 : Int64) = (1 : Int32).toInt64 from rfl, show (60 : Int64) = (60 : Int32).toInt64 from rfl, inL_eq]
  · intro v; rw [show (1 : Int64) = (1 : Int32).toInt64 from rfl, show (300 : Int64) = (300 : Int32).toInt64 from rfl, inL_eq]
  · intro v; rw [show (1 : Int64) = (1 : Int32).toInt64 from rfl, show (200 : Int64) = (200 : Int32).toInt64 from rfl, inL_eq]
  · intro v; rw [show (0 : Int64) = (0 : Int32).toInt64 from rfl, show (10000 : Int64) = (10000 : Int32).toInt64 from rfl, inL_eq]
  · intro v; rw [show (1 : Int64) = (1 : Int32).toInt64 from rfl, show (600 : Int64) = (600 : Int32).toInt64 from rfl, inL_eq]
  · intro v; rw [show (0 : Int64) = (0 : Int32).toInt64 from rfl, show (100000 : Int64) = (100000 : Int32).toInt64 from rfl, inL_eq]
  · intro v; rw [show (0 : Int64) = (0 : Int32).toInt64 from rfl, show (1440 : Int64) = (1440 : Int32).toInt64 from rfl, inL_eq]
  · intro v; rw [show (32 : Int64) = (32 : Int32).toInt64 from rfl, show (126 : Int64) = (126 : Int32).toInt64 from rfl, inL_eq]
def minS (_ : Nat) (q : ST × Int32) : ST × Int32 := (q.1.minute, q.2 ||| mask q.1.minute)
def sawN (S : ST) (x : Int32) (k : Nat) : Int32 := (it minS (S, x) k).2
theorem minS_f (k : Nat) (q : ST × Int32) : (minS k q).1 = q.1.minute := by simp only [minS]
theorem minS_g (k : Nat) (q : ST × Int32) : (minS k q).2 = q.2 ||| mask q.1.minute := by simp only [minS]
theorem minS_1 (S : ST) (x : Int32) (k : Nat) : (it minS (S, x) k).1 = S.mins k := by
  induction k with
  | zero => rfl
  | succ k ih => rw [it, minS_f, ih, ST.mins_succ]
theorem sawN_s (S : ST) (x : Int32) (k : Nat) : sawN S x (k + 1) = sawN S x k ||| mask (S.mins (k + 1)) := by
  unfold sawN
  rw [it, minS_g, minS_1, ST.mins_succ]
theorem ST.mins_inv {S : ST} {n : Nat} : ∀ k, S.inv (17 * k + n) → (S.mins k).inv n
  | 0, h => by simpa [ST.mins, it] using h
  | k + 1, h => by
    rw [ST.mins_succ]
    exact ST.minute_inv (ST.mins_inv k (n := n + 17) (by rw [show 17 * k + (n + 17) = 17 * (k + 1) + n by omega]; exact h))
theorem saw_s : ∀ (M : MT) (x : Int32) (T : ST), (M.sSeen x).saw T = M.sSeen (x ||| mask T) := fun _ _ _ => rfl
def cod_X7_minutes : List (Nat × Op QT) := [(0, O_int 0 1), (1, O_istore 2 1), (2, O_iload 2 1), (3, O_iload 1 1), (4, O_icmp_ge 17), (7, O_aload 0 1), (8, O_callV 0 0 (fun S => S) (fun _ S' => S') sp_X7_minute), (11, O_iinc 2 1), (14, O_goto 2), (17, O_vret)]
abbrev cut_X7_minutes : List Nat := [2]
set_option maxRecDepth 100000 in
theorem okc_X7_minutes {E : En} (F : Fx E RX7 cX7_minutes 3 7) (G : Fr E none) : CodOk E aW cod_X7_minutes := by
  unfold CodOk cod_X7_minutes
  refine List.forall_mem_cons.mpr ⟨ok_iconst F dX7_minutes_0 (by decide) (by decide), ?_⟩
  refine List.forall_mem_cons.mpr ⟨ok_istore_n F dX7_minutes_1 rfl (by decide) (by decide), ?_⟩
  refine List.forall_mem_cons.mpr ⟨ok_iload_n F dX7_minutes_2 rfl (by decide), ?_⟩
  refine List.forall_mem_cons.mpr ⟨ok_iload_n F dX7_minutes_3 rfl (by decide), ?_⟩
  refine List.forall_mem_cons.mpr ⟨ok_icmp_ge F dX7_minutes_4 (by decide) (by decide) (by decide), ?_⟩
  refine List.forall_mem_cons.mpr ⟨ok_aload_n F dX7_minutes_7 rfl (by decide), ?_⟩
  refine List.forall_mem_cons.mpr ⟨ok_callV F spok_X7_minute (ln_id aW) rcv_aW (by decide +kernel) (by decide) dX7_minutes_8 (by decide), ?_⟩
  refine List.forall_mem_cons.mpr ⟨ok_iinc F dX7_minutes_11 (by decide) (by decide) (by decide), ?_⟩
  refine List.forall_mem_cons.mpr ⟨ok_goto F dX7_minutes_14 (by decide) (by decide) (by decide), ?_⟩
  refine List.forall_mem_cons.mpr ⟨ok_vret F G dX7_minutes_17 (by decide), ?_⟩
  exact fun _ h => absurd h List.not_mem_nil
set_option maxRecDepth 100000 in
theorem w_X7_minutes : (∀ (K : Kt QT) (n : Nat) (L : xL) (st : List Value) (S : QT), nx cod_X7_minutes cut_X7_minutes K (n + 1) 0 L st S = (O_int 0 1) (nx cod_X7_minutes cut_X7_minutes K n) 0 L st S) ∧
  (∀ (K : Kt QT) (n : Nat) (L : xL) (st : List Value) (S : QT), nx cod_X7_minutes cut_X7_minutes K (n + 1) 1 L st S = (O_istore 2 1) (nx cod_X7_minutes cut_X7_minutes K n) 1 L st S) ∧
  (∀ (K : Kt QT) (n : Nat) (L : xL) (st : List Value) (S : QT), nx cod_X7_minutes cut_X7_minutes K (n + 1) 2 L st S = K 2 L st S) ∧
  (∀ (K : Kt QT) (n : Nat) (L : xL) (st : List Value) (S : QT), nx1 cod_X7_minutes cut_X7_minutes K n 2 L st S = (O_iload 2 1) (nx cod_X7_minutes cut_X7_minutes K n) 2 L st S) ∧
  (∀ (K : Kt QT) (n : Nat) (L : xL) (st : List Value) (S : QT), nx cod_X7_minutes cut_X7_minutes K (n + 1) 3 L st S = (O_iload 1 1) (nx cod_X7_minutes cut_X7_minutes K n) 3 L st S) ∧
  (∀ (K : Kt QT) (n : Nat) (L : xL) (st : List Value) (S : QT), nx cod_X7_minutes cut_X7_minutes K (n + 1) 4 L st S = (O_icmp_ge 17) (nx cod_X7_minutes cut_X7_minutes K n) 4 L st S) ∧
  (∀ (K : Kt QT) (n : Nat) (L : xL) (st : List Value) (S : QT), nx cod_X7_minutes cut_X7_minutes K (n + 1) 7 L st S = (O_aload 0 1) (nx cod_X7_minutes cut_X7_minutes K n) 7 L st S) ∧
  (∀ (K : Kt QT) (n : Nat) (L : xL) (st : List Value) (S : QT), nx cod_X7_minutes cut_X7_minutes K (n + 1) 8 L st S = (O_callV 0 0 (fun S => S) (fun _ S' => S') sp_X7_minute) (nx cod_X7_minutes cut_X7_minutes K n) 8 L st S) ∧
  (∀ (K : Kt QT) (n : Nat) (L : xL) (st : List Value) (S : QT), nx cod_X7_minutes cut_X7_minutes K (n + 1) 11 L st S = (O_iinc 2 1) (nx cod_X7_minutes cut_X7_minutes K n) 11 L st S) ∧
  (∀ (K : Kt QT) (n : Nat) (L : xL) (st : List Value) (S : QT), nx cod_X7_minutes cut_X7_minutes K (n + 1) 14 L st S = (O_goto 2) (nx cod_X7_minutes cut_X7_minutes K n) 14 L st S) ∧
  (∀ (K : Kt QT) (n : Nat) (L : xL) (st : List Value) (S : QT), nx cod_X7_minutes cut_X7_minutes K (n + 1) 17 L st S = (O_vret) (nx cod_X7_minutes cut_X7_minutes K n) 17 L st S) ∧
  (∀ (K : Kt QT) (n : Nat) (L : xL) (st : List Value) (S : QT), nx cod_X7_minutes cut_X7_minutes K (n + 1) 100000 L st S = K 100000 L st S) := by
  repeat' apply And.intro
  all_goals (intros; rfl)
set_option maxRecDepth 100000 in
theorem mk_X7_minutes {P P' : QT} {r : Option Value} {p0 : Int32} (body : ∀ E : En, CodOk E aW cod_X7_minutes → Gd E aW 100000 [] r.toList P' → Gd E aW 0 [some (.ref 0), some (.int p0), none] [] P) : Con yX7_minutes cX7_minutes 3 none 7 aW [.ref 0, .int p0] P r P' :=
  Con.of (by decide) ((aW_len P').trans (aW_len P).symm) rfl (Nat.le_of_ble_eq_true rfl) (fun E F G hr => body E (okc_X7_minutes F G) hr)
set_option maxRecDepth 10000 in
theorem con_X7_minutes (S : ST) (M : MT) (fl : Bool) (n : Int32) (hp : S.inv 30000 ∧ fl = false ∧ n = nI n.toNatClampNeg ∧ n.toNatClampNeg ≤ 1440) : Con yX7_minutes cX7_minutes 3 none 7 aW [.ref 0, .int n] (S, M, fl) (none) ((S.mins n.toNatClampNeg, M.sSeen (sawN S M.seen n.toNatClampNeg), false)) := by
  refine mk_X7_minutes (fun E C hr => ?_)
  obtain ⟨hi, rfl, hn1, hn2⟩ := hp
  have key : Gd E aW 2 [some (.ref 0), some (.int n), some (.int (nI 0))] [] (S, M.sSeen M.seen, false) := by
    refine it_up (f := minS) (a := (S, M.seen)) (n := n.toNatClampNeg) (fun i (q : ST × Int32) => i ≤ 1440 → q.1.inv (17 * (1440 - i) + 100)) (fun i (q : ST × Int32) => Gd E aW 2 [some (.ref 0), some (.int n), some (.int (nI i))] [] (q.1, M.sSeen q.2, false)) (fun _ => ST.inv_le hi (by omega)) (fun i q hi2 hq z => ?_) (fun i q hi2 hq hh => ?_) ?_
    · have h1 := hq (by omega)
      rw [show 17 * (1440 - i) + 100 = 17 * (1440 - (i + 1)) + 100 + 17 by omega] at h1
      rw [minS_f]
      exact ST.minute_inv h1
    · obtain ⟨T, x⟩ := q
      have hx := lps hn1 (by omega) hi2
      have h1 := ST.inv_le (hq (by omega)) (m := 17) (by omega)
      have e : minS i (T, x) = (T.minute, x ||| mask T.minute) := by simp only [minS]
      rw [e] at hh
      dsimp only at h1 hh
      clear e
      clear hq hr hn1 hn2
      (refine nx1_ok C cut_X7_minutes 1000 ?_; simp only [w_X7_minutes, ops_eq, xst_eq, call_eq, oK_eq, Option.toList_some, Option.toList_none, List.cons_append, List.nil_append, List.length_cons, List.length_nil, true_and, and_true, Nat.reduceAdd, aW_F, aW_A, aW_P, aW_w, abs_eq, O_asti_eq, v170, cl_eq, ST_id, MT_gs, ST_gs, PT_gs, ZT_gs, NT_gs, ET_gs, se_X7_minute, hx, h1, saw_s])
      ((repeat' (with_reducible first | apply And.intro | intro _)) <;> first | (with_reducible assumption) | (with_reducible exact Nat.zero_le _) | exact absurd trivial ‹¬True› | (simp_all [ST_id, MT_gs, ST_gs, PT_gs, ZT_gs, NT_gs, ET_gs]; done) | assumption | simp_all)
    · have hx := lpe hn1 (by omega)
      have e1 : (it minS (S, M.seen) n.toNatClampNeg).1 = S.mins n.toNatClampNeg := minS_1 _ _ _
      have e2 : (it minS (S, M.seen) n.toNatClampNeg).2 = sawN S M.seen n.toNatClampNeg := rfl
      rw [e1, e2]
      clear hn1 hn2 e1 e2
      (refine nx1_ok C cut_X7_minutes 1000 ?_; simp only [w_X7_minutes, ops_eq, xst_eq, call_eq, oK_eq, Option.toList_some, Option.toList_none, List.cons_append, List.nil_append, List.length_cons, List.length_nil, true_and, and_true, Nat.reduceAdd, aW_F, aW_A, aW_P, aW_w, abs_eq, O_asti_eq, v170, cl_eq, ST_id, MT_gs, ST_gs, PT_gs, ZT_gs, NT_gs, ET_gs, se_X7_minute, hx])
      exact ⟨fun _ => hr, fun h => h.elim⟩
  clear hr
  (refine nx_ok C (cuts := cut_X7_minutes) 1000 _ _ _ _ ?_; simp only [w_X7_minutes, ops_eq, xst_eq, call_eq, oK_eq, Option.toList_some, Option.toList_none, List.cons_append, List.nil_append, List.length_cons, List.length_nil, true_and, and_true, Nat.reduceAdd, aW_F, aW_A, aW_P, aW_w, abs_eq, O_asti_eq, v170, cl_eq, ST_id, MT_gs, ST_gs, PT_gs, ZT_gs, NT_gs, ET_gs, se_X7_minute])
  exact key
def spc_X7_minutes (S : ST) (M : MT) (fl : Bool) (n : Int32) (K : Option Value → QT → Prop) : Prop := (S.inv 30000 ∧ fl = false ∧ n = nI n.toNatClampNeg ∧ n.toNatClampNeg ≤ 1440) ∧ K (none) ((S.mins n.toNatClampNeg, M.sSeen (sawN S M.seen n.toNatClampNeg), false))
def sp_X7_minutes : Sp QT := fun av q K => match av with
  | [.ref 0, .int n] => spc_X7_minutes q.1 q.2.1 q.2.2 n K
  | _ => False
theorem se_X7_minutes (S : ST) (M : MT) (fl : Bool) (n : Int32) (K : Option Value → QT → Prop) : sp_X7_minutes [.ref 0, .int n] (S, M, fl) K = ((S.inv 30000 ∧ fl = false ∧ n = nI n.toNatClampNeg ∧ n.toNatClampNeg ≤ 1440) ∧ K (none) ((S.mins n.toNatClampNeg, M.sSeen (sawN S M.seen n.toNatClampNeg), false))) := rfl
theorem spok_X7_minutes : SpOk yX7_minutes cX7_minutes 3 none 7 aW sp_X7_minutes := by
  intro av q K h
  unfold sp_X7_minutes at h
  split at h
  · rename_i n; refine ⟨_, _, ?_, con_X7_minutes q.1 q.2.1 q.2.2 n h.1, h.2⟩; trivial
  · exact h.elim
def pfault (S : ST) (m : Int32) : Int32 := if inR m 1 240 = false then -1000001 else if 20000 < S.time + m then -1000003 else 0
def cod_X7_passFault : List (Nat × Op QT) := [(0, O_iload 1 1), (1, O_i2l), (2, O_long 1 1), (3, O_long 240 3), (6, O_callS 3 sp_X7_in), (9, O_if_ne 17), (12, O_int (-1000001) 2), (14, O_goto 37), (17, O_aload 0 1), (18, O_getf aW 7 0), (21, O_int 0 1), (22, O_ald aW 0), (23, O_iload 1 1), (24, O_iadd), (25, O_int 20000 3), (28, O_icmp_le 36), (31, O_int (-1000003) 2), (33, O_goto 37), (36, O_int 0 1), (37, O_iret)]
abbrev cut_X7_passFault : List Nat := []
set_option maxRecDepth 100000 in
theorem okc_X7_passFault {E : En} (F : Fx E RX7 cX7_passFault 2 1) (G : Fr E (some .int)) : CodOk E aW cod_X7_passFault := by
  unfold CodOk cod_X7_passFault
  refine List.forall_mem_cons.mpr ⟨ok_iload_n F dX7_passFault_0 rfl (by decide), ?_⟩
  refine List.forall_mem_cons.mpr ⟨ok_i2l F dX7_passFault_1 (by decide), ?_⟩
  refine List.forall_mem_cons.mpr ⟨ok_lconst F dX7_passFault_2 (by decide) (by decide), ?_⟩
  refine List.forall_mem_cons.mpr ⟨ok_ldc2 F (ix := 211) (wsHas_mem (l := [Jvm.Cond.constantLong RX7 211 240]) (by decide +kernel) (by simp)) dX7_passFault_3 (by decide), ?_⟩
  refine List.forall_mem_cons.mpr ⟨ok_callS F spok_X7_in (by decide +kernel) rfl (by decide) dX7_passFault_6 (by decide), ?_⟩
  refine List.forall_mem_cons.mpr ⟨ok_if_ne F dX7_passFault_9 (by decide) (by decide) (by decide), ?_⟩
  refine List.forall_mem_cons.mpr ⟨ok_ldc F (ix := 62) (wsHas_mem (l := [Jvm.Cond.constant RX7 62 (-1000001)]) (by decide +kernel) (by simp)) dX7_passFault_12 (by decide), ?_⟩
  refine List.forall_mem_cons.mpr ⟨ok_goto F dX7_passFault_14 (by decide) (by decide) (by decide), ?_⟩
  refine List.forall_mem_cons.mpr ⟨ok_aload_n F dX7_passFault_17 rfl (by decide), ?_⟩
  refine List.forall_mem_cons.mpr ⟨ok_getf F flX7_7 dX7_passFault_18 (by decide), ?_⟩
  refine List.forall_mem_cons.mpr ⟨ok_iconst F dX7_passFault_21 (by decide) (by decide), ?_⟩
  refine List.forall_mem_cons.mpr ⟨ok_iald F dX7_passFault_22 (by decide), ?_⟩
  refine List.forall_mem_cons.mpr ⟨ok_iload_n F dX7_passFault_23 rfl (by decide), ?_⟩
  refine List.forall_mem_cons.mpr ⟨ok_iadd F dX7_passFault_24 (by decide), ?_⟩
  refine List.forall_mem_cons.mpr ⟨ok_sipush F dX7_passFault_25 (by decide) (by decide), ?_⟩
  refine List.forall_mem_cons.mpr ⟨ok_icmp_le F dX7_passFault_28 (by decide) (by decide) (by decide), ?_⟩
  refine List.forall_mem_cons.mpr ⟨ok_ldc F (ix := 73) (wsHas_mem (l := [Jvm.Cond.constant RX7 73 (-1000003)]) (by decide +kernel) (by simp)) dX7_passFault_31 (by decide), ?_⟩
  refine List.forall_mem_cons.mpr ⟨ok_goto F dX7_passFault_33 (by decide) (by decide) (by decide), ?_⟩
  refine List.forall_mem_cons.mpr ⟨ok_iconst F dX7_passFault_36 (by decide) (by decide), ?_⟩
  refine List.forall_mem_cons.mpr ⟨ok_iret F G dX7_passFault_37 (by decide), ?_⟩
  exact fun _ h => absurd h List.not_mem_nil
set_option maxRecDepth 100000 in
theorem w_X7_passFault : (∀ (K : Kt QT) (n : Nat) (L : xL) (st : List Value) (S : QT), nx cod_X7_passFault cut_X7_passFault K (n + 1) 0 L st S = (O_iload 1 1) (nx cod_X7_passFault cut_X7_passFault K n) 0 L st S) ∧
  (∀ (K : Kt QT) (n : Nat) (L : xL) (st : List Value) (S : QT), nx cod_X7_passFault cut_X7_passFault K (n + 1) 1 L st S = (O_i2l) (nx cod_X7_passFault cut_X7_passFault K n) 1 L st S) ∧
  (∀ (K : Kt QT) (n : Nat) (L : xL) (st : List Value) (S : QT), nx cod_X7_passFault cut_X7_passFault K (n + 1) 2 L st S = (O_long 1 1) (nx cod_X7_passFault cut_X7_passFault K n) 2 L st S) ∧
  (∀ (K : Kt QT) (n : Nat) (L : xL) (st : List Value) (S : QT), nx cod_X7_passFault cut_X7_passFault K (n + 1) 3 L st S = (O_long 240 3) (nx cod_X7_passFault cut_X7_passFault K n) 3 L st S) ∧
  (∀ (K : Kt QT) (n : Nat) (L : xL) (st : List Value) (S : QT), nx cod_X7_passFault cut_X7_passFault K (n + 1) 6 L st S = (O_callS 3 sp_X7_in) (nx cod_X7_passFault cut_X7_passFault K n) 6 L st S) ∧
  (∀ (K : Kt QT) (n : Nat) (L : xL) (st : List Value) (S : QT), nx cod_X7_passFault cut_X7_passFault K (n + 1) 9 L st S = (O_if_ne 17) (nx cod_X7_passFault cut_X7_passFault K n) 9 L st S) ∧
  (∀ (K : Kt QT) (n : Nat) (L : xL) (st : List Value) (S : QT), nx cod_X7_passFault cut_X7_passFault K (n + 1) 12 L st S = (O_int (-1000001) 2) (nx cod_X7_passFault cut_X7_passFault K n) 12 L st S) ∧
  (∀ (K : Kt QT) (n : Nat) (L : xL) (st : List Value) (S : QT), nx cod_X7_passFault cut_X7_passFault K (n + 1) 14 L st S = (O_goto 37) (nx cod_X7_passFault cut_X7_passFault K n) 14 L st S) ∧
  (∀ (K : Kt QT) (n : Nat) (L : xL) (st : List Value) (S : QT), nx cod_X7_passFault cut_X7_passFault K (n + 1) 17 L st S = (O_aload 0 1) (nx cod_X7_passFault cut_X7_passFault K n) 17 L st S) ∧
  (∀ (K : Kt QT) (n : Nat) (L : xL) (st : List Value) (S : QT), nx cod_X7_passFault cut_X7_passFault K (n + 1) 18 L st S = (O_getf aW 7 0) (nx cod_X7_passFault cut_X7_passFault K n) 18 L st S) ∧
  (∀ (K : Kt QT) (n : Nat) (L : xL) (st : List Value) (S : QT), nx cod_X7_passFault cut_X7_passFault K (n + 1) 21 L st S = (O_int 0 1) (nx cod_X7_passFault cut_X7_passFault K n) 21 L st S) ∧
  (∀ (K : Kt QT) (n : Nat) (L : xL) (st : List Value) (S : QT), nx cod_X7_passFault cut_X7_passFault K (n + 1) 22 L st S = (O_ald aW 0) (nx cod_X7_passFault cut_X7_passFault K n) 22 L st S) ∧
  (∀ (K : Kt QT) (n : Nat) (L : xL) (st : List Value) (S : QT), nx cod_X7_passFault cut_X7_passFault K (n + 1) 23 L st S = (O_iload 1 1) (nx cod_X7_passFault cut_X7_passFault K n) 23 L st S) ∧
  (∀ (K : Kt QT) (n : Nat) (L : xL) (st : List Value) (S : QT), nx cod_X7_passFault cut_X7_passFault K (n + 1) 24 L st S = (O_iadd) (nx cod_X7_passFault cut_X7_passFault K n) 24 L st S) ∧
  (∀ (K : Kt QT) (n : Nat) (L : xL) (st : List Value) (S : QT), nx cod_X7_passFault cut_X7_passFault K (n + 1) 25 L st S = (O_int 20000 3) (nx cod_X7_passFault cut_X7_passFault K n) 25 L st S) ∧
  (∀ (K : Kt QT) (n : Nat) (L : xL) (st : List Value) (S : QT), nx cod_X7_passFault cut_X7_passFault K (n + 1) 28 L st S = (O_icmp_le 36) (nx cod_X7_passFault cut_X7_passFault K n) 28 L st S) ∧
  (∀ (K : Kt QT) (n : Nat) (L : xL) (st : List Value) (S : QT), nx cod_X7_passFault cut_X7_passFault K (n + 1) 31 L st S = (O_int (-1000003) 2) (nx cod_X7_passFault cut_X7_passFault K n) 31 L st S) ∧
  (∀ (K : Kt QT) (n : Nat) (L : xL) (st : List Value) (S : QT), nx cod_X7_passFault cut_X7_passFault K (n + 1) 33 L st S = (O_goto 37) (nx cod_X7_passFault cut_X7_passFault K n) 33 L st S) ∧
  (∀ (K : Kt QT) (n : Nat) (L : xL) (st : List Value) (S : QT), nx cod_X7_passFault cut_X7_passFault K (n + 1) 36 L st S = (O_int 0 1) (nx cod_X7_passFault cut_X7_passFault K n) 36 L st S) ∧
  (∀ (K : Kt QT) (n : Nat) (L : xL) (st : List Value) (S : QT), nx cod_X7_passFault cut_X7_passFault K (n + 1) 37 L st S = (O_iret) (nx cod_X7_passFault cut_X7_passFault K n) 37 L st S) ∧
  (∀ (K : Kt QT) (n : Nat) (L : xL) (st : List Value) (S : QT), nx cod_X7_passFault cut_X7_passFault K (n + 1) 100000 L st S = K 100000 L st S) := by
  repeat' apply And.intro
  all_goals (intros; rfl)
set_option maxRecDepth 100000 in
theorem mk_X7_passFault {P P' : QT} {r : Option Value} {p0 : Int32} (body : ∀ E : En, CodOk E aW cod_X7_passFault → Gd E aW 100000 [] r.toList P' → Gd E aW 0 [some (.ref 0), some (.int p0)] [] P) : Con yX7_passFault cX7_passFault 2 (some .int) 1 aW [.ref 0, .int p0] P r P' :=
  Con.of (by decide) ((aW_len P').trans (aW_len P).symm) rfl (Nat.le_of_ble_eq_true rfl) (fun E F G hr => body E (okc_X7_passFault F G) hr)
set_option maxRecDepth 10000 in
theorem con_X7_passFault (S : ST) (M : MT) (fl : Bool) (m : Int32) : Con yX7_passFault cX7_passFault 2 (some .int) 1 aW [.ref 0, .int m] (S, M, fl) (some (.int (pfault S m))) ((S, M, fl)) := by
  refine mk_X7_passFault (fun E C hr => ?_)
  by_cases c : inR m 1 240 = true
  · by_cases d : 20000 < S.time + m
    · have e : pfault S m = -1000003 := by unfold pfault; rw [if_neg (by rw [c]; decide), if_pos d]
      rw [e] at hr
      (refine nx_ok C (cuts := cut_X7_passFault) 1000 _ _ _ _ ?_; simp only [w_X7_passFault, ops_eq, xst_eq, call_eq, oK_eq, Option.toList_some, Option.toList_none, List.cons_append, List.nil_append, List.length_cons, List.length_nil, true_and, and_true, Nat.reduceAdd, aW_F, aW_A, aW_P, aW_w, abs_eq, O_asti_eq, v170, cl_eq, ST_id, MT_gs, ST_gs, PT_gs, ZT_gs, NT_gs, ET_gs, se_X7_in, bI_eq, inL_lit, c, d])
      ((repeat' (with_reducible first | apply And.intro | intro _)) <;> first | (with_reducible assumption) | (with_reducible exact Nat.zero_le _) | exact absurd trivial ‹¬True› | (simp_all [ST_id, MT_gs, ST_gs, PT_gs, ZT_gs, NT_gs, ET_gs]; done) | assumption | simp_all)
    · have e : pfault S m = 0 := by unfold pfault; rw [if_neg (by rw [c]; decide), if_neg d]
      rw [e] at hr
      (refine nx_ok C (cuts := cut_X7_passFault) 1000 _ _ _ _ ?_; simp only [w_X7_passFault, ops_eq, xst_eq, call_eq, oK_eq, Option.toList_some, Option.toList_none, List.cons_append, List.nil_append, List.length_cons, List.length_nil, true_and, and_true, Nat.reduceAdd, aW_F, aW_A, aW_P, aW_w, abs_eq, O_asti_eq, v170, cl_eq, ST_id, MT_gs, ST_gs, PT_gs, ZT_gs, NT_gs, ET_gs, se_X7_in, bI_eq, inL_lit, c, d])
      ((repeat' (with_reducible first | apply And.intro | intro _)) <;> first | (with_reducible assumption) | (with_reducible exact Nat.zero_le _) | exact absurd trivial ‹¬True› | (simp_all [ST_id, MT_gs, ST_gs, PT_gs, ZT_gs, NT_gs, ET_gs]; done) | assumption | simp_all)
  · have c2 : inR m 1 240 = false := by cases z : inR m 1 240 <;> simp_all
    have e : pfault S m = -1000001 := by unfold pfault; rw [if_pos c2]
    rw [e] at hr
    (refine nx_ok C (cuts := cut_X7_passFault) 1000 _ _ _ _ ?_; simp only [w_X7_passFault, ops_eq, xst_eq, call_eq, oK_eq, Option.toList_some, Option.toList_none, List.cons_append, List.nil_append, List.length_cons, List.length_nil, true_and, and_true, Nat.reduceAdd, aW_F, aW_A, aW_P, aW_w, abs_eq, O_asti_eq, v170, cl_eq, ST_id, MT_gs, ST_gs, PT_gs, ZT_gs, NT_gs, ET_gs, se_X7_in, bI_eq, inL_lit, c2])
    ((repeat' (with_reducible first | apply And.intro | intro _)) <;> first | (with_reducible assumption) | (with_reducible exact Nat.zero_le _) | exact absurd trivial ‹¬True› | (simp_all [ST_id, MT_gs, ST_gs, PT_gs, ZT_gs, NT_gs, ET_gs]; done) | assumption | simp_all)
def spc_X7_passFault (S : ST) (M : MT) (fl : Bool) (m : Int32) (K : Option Value → QT → Prop) : Prop := K (some (.int (pfault S m))) ((S, M, fl))
def sp_X7_passFault : Sp QT := fun av q K => match av with
  | [.ref 0, .int m] => spc_X7_passFault q.1 q.2.1 q.2.2 m K
  | _ => False
theorem se_X7_passFault (S : ST) (M : MT) (fl : Bool) (m : Int32) (K : Option Value → QT → Prop) : sp_X7_passFault [.ref 0, .int m] (S, M, fl) K = (K (some (.int (pfault S m))) ((S, M, fl))) := rfl
theorem spok_X7_passFault : SpOk yX7_passFault cX7_passFault 2 (some .int) 1 aW sp_X7_passFault := by
  intro av q K h
  unfold sp_X7_passFault at h
  split at h
  · rename_i m; refine ⟨_, _, ?_, con_X7_passFault q.1 q.2.1 q.2.2 m, h⟩; trivial
  · exact h.elim
def cod_X7_resets : List (Nat × Op QT) := [(0, O_aload 0 1), (1, O_getf aW 7 0), (4, O_int 6 2), (6, O_ald aW 0), (7, O_istore 1 1), (8, O_aload 0 1), (9, O_getf aW 7 0), (12, O_int 6 2), (14, O_int 0 1), (15, O_asti aW aW_wi), (16, O_aload 0 1), (17, O_getf aW 7 0), (20, O_int 5 1), (21, O_ald aW 0), (22, O_int 1 1), (23, O_icmp_ne 54), (26, O_aload 0 1), (27, O_getf aW 7 0), (30, O_int 2 1), (31, O_ald aW 0), (32, O_aload 0 1), (33, O_int 12 2), (35, O_callV 1 0 (fun S => S) (fun _ S' => S') sp_X7_setting), (38, O_icmp_lt 54), (41, O_aload 0 1), (42, O_getf aW 7 0), (45, O_int 5 1), (46, O_int 0 1), (47, O_asti aW aW_wi), (48, O_aload 0 1), (49, O_int 5 1), (50, O_int (-1) 1), (51, O_callV 2 0 (fun S => S) (fun _ S' => S') spa_X7_event), (54, O_iload 1 1), (55, O_iret)]
abbrev cut_X7_resets : List Nat := []
set_option maxRecDepth 100000 in
theorem okc_X7_resets {E : En} (F : Fx E RX7 cX7_resets 2 1) (G : Fr E (some .int)) : CodOk E aW cod_X7_resets := by
  unfold CodOk cod_X7_resets
  refine List.forall_mem_cons.mpr ⟨ok_aload_n F dX7_resets_0 rfl (by decide), ?_⟩
  refine List.forall_mem_cons.mpr ⟨ok_getf F flX7_7 dX7_resets_1 (by decide), ?_⟩
  refine List.forall_mem_cons.mpr ⟨ok_bipush F dX7_resets_4 (by decide) (by decide), ?_⟩
  refine List.forall_mem_cons.mpr ⟨ok_iald F dX7_resets_6 (by decide), ?_⟩
  refine List.forall_mem_cons.mpr ⟨ok_istore_n F dX7_resets_7 rfl (by decide) (by decide), ?_⟩
  refine List.forall_mem_cons.mpr ⟨ok_aload_n F dX7_resets_8 rfl (by decide), ?_⟩
  refine List.forall_mem_cons.mpr ⟨ok_getf F flX7_7 dX7_resets_9 (by decide), ?_⟩
  refine List.forall_mem_cons.mpr ⟨ok_bipush F dX7_resets_12 (by decide) (by decide), ?_⟩
  refine List.forall_mem_cons.mpr ⟨ok_iconst F dX7_resets_14 (by decide) (by decide), ?_⟩
  refine List.forall_mem_cons.mpr ⟨ok_asti F aW_wok dX7_resets_15 (by decide), ?_⟩
  refine List.forall_mem_cons.mpr ⟨ok_aload_n F dX7_resets_16 rfl (by decide), ?_⟩
  refine List.forall_mem_cons.mpr ⟨ok_getf F flX7_7 dX7_resets_17 (by decide), ?_⟩
  refine List.forall_mem_cons.mpr ⟨ok_iconst F dX7_resets_20 (by decide) (by decide), ?_⟩
  refine List.forall_mem_cons.mpr ⟨ok_iald F dX7_resets_21 (by decide), ?_⟩
  refine List.forall_mem_cons.mpr ⟨ok_iconst F dX7_resets_22 (by decide) (by decide), ?_⟩
  refine List.forall_mem_cons.mpr ⟨ok_icmp_ne F dX7_resets_23 (by decide) (by decide) (by decide), ?_⟩
  refine List.forall_mem_cons.mpr ⟨ok_aload_n F dX7_resets_26 rfl (by decide), ?_⟩
  refine List.forall_mem_cons.mpr ⟨ok_getf F flX7_7 dX7_resets_27 (by decide), ?_⟩
  refine List.forall_mem_cons.mpr ⟨ok_iconst F dX7_resets_30 (by decide) (by decide), ?_⟩
  refine List.forall_mem_cons.mpr ⟨ok_iald F dX7_resets_31 (by decide), ?_⟩
  refine List.forall_mem_cons.mpr ⟨ok_aload_n F dX7_resets_32 rfl (by decide), ?_⟩
  refine List.forall_mem_cons.mpr ⟨ok_bipush F dX7_resets_33 (by decide) (by decide), ?_⟩
  refine List.forall_mem_cons.mpr ⟨ok_callV F spok_X7_setting (ln_id aW) rcv_aW (by decide +kernel) (by decide) dX7_resets_35 (by decide), ?_⟩
  refine List.forall_mem_cons.mpr ⟨ok_icmp_lt F dX7_resets_38 (by decide) (by decide) (by decide), ?_⟩
  refine List.forall_mem_cons.mpr ⟨ok_aload_n F dX7_resets_41 rfl (by decide), ?_⟩
  refine List.forall_mem_cons.mpr ⟨ok_getf F flX7_7 dX7_resets_42 (by decide), ?_⟩
  refine List.forall_mem_cons.mpr ⟨ok_iconst F dX7_resets_45 (by decide) (by decide), ?_⟩
  refine List.forall_mem_cons.mpr ⟨ok_iconst F dX7_resets_46 (by decide) (by decide), ?_⟩
  refine List.forall_mem_cons.mpr ⟨ok_asti F aW_wok dX7_resets_47 (by decide), ?_⟩
  refine List.forall_mem_cons.mpr ⟨ok_aload_n F dX7_resets_48 rfl (by decide), ?_⟩
  refine List.forall_mem_cons.mpr ⟨ok_iconst F dX7_resets_49 (by decide) (by decide), ?_⟩
  refine List.forall_mem_cons.mpr ⟨ok_iconst F dX7_resets_50 (by decide) (by decide), ?_⟩
  refine List.forall_mem_cons.mpr ⟨ok_callV F spoka_X7_event (ln_id aW) rcv_aW (by decide +kernel) (by decide) dX7_resets_51 (by decide), ?_⟩
  refine List.forall_mem_cons.mpr ⟨ok_iload_n F dX7_resets_54 rfl (by decide), ?_⟩
  refine List.forall_mem_cons.mpr ⟨ok_iret F G dX7_resets_55 (by decide), ?_⟩
  exact fun _ h => absurd h List.not_mem_nil
set_option maxRecDepth 100000 in
theorem w_X7_resets : (∀ (K : Kt QT) (n : Nat) (L : xL) (st : List Value) (S : QT), nx cod_X7_resets cut_X7_resets K (n + 1) 0 L st S = (O_aload 0 1) (nx cod_X7_resets cut_X7_resets K n) 0 L st S) ∧
  (∀ (K : Kt QT) (n : Nat) (L : xL) (st : List Value) (S : QT), nx cod_X7_resets cut_X7_resets K (n + 1) 1 L st S = (O_getf aW 7 0) (nx cod_X7_resets cut_X7_resets K n) 1 L st S) ∧
  (∀ (K : Kt QT) (n : Nat) (L : xL) (st : List Value) (S : QT), nx cod_X7_resets cut_X7_resets K (n + 1) 4 L st S = (O_int 6 2) (nx cod_X7_resets cut_X7_resets K n) 4 L st S) ∧
  (∀ (K : Kt QT) (n : Nat) (L : xL) (st : List Value) (S : QT), nx cod_X7_resets cut_X7_resets K (n + 1) 6 L st S = (O_ald aW 0) (nx cod_X7_resets cut_X7_resets K n) 6 L st S) ∧
  (∀ (K : Kt QT) (n : Nat) (L : xL) (st : List Value) (S : QT), nx cod_X7_resets cut_X7_resets K (n + 1) 7 L st S = (O_istore 1 1) (nx cod_X7_resets cut_X7_resets K n) 7 L st S) ∧
  (∀ (K : Kt QT) (n : Nat) (L : xL) (st : List Value) (S : QT), nx cod_X7_resets cut_X7_resets K (n + 1) 8 L st S = (O_aload 0 1) (nx cod_X7_resets cut_X7_resets K n) 8 L st S) ∧
  (∀ (K : Kt QT) (n : Nat) (L : xL) (st : List Value) (S : QT), nx cod_X7_resets cut_X7_resets K (n + 1) 9 L st S = (O_getf aW 7 0) (nx cod_X7_resets cut_X7_resets K n) 9 L st S) ∧
  (∀ (K : Kt QT) (n : Nat) (L : xL) (st : List Value) (S : QT), nx cod_X7_resets cut_X7_resets K (n + 1) 12 L st S = (O_int 6 2) (nx cod_X7_resets cut_X7_resets K n) 12 L st S) ∧
  (∀ (K : Kt QT) (n : Nat) (L : xL) (st : List Value) (S : QT), nx cod_X7_resets cut_X7_resets K (n + 1) 14 L st S = (O_int 0 1) (nx cod_X7_resets cut_X7_resets K n) 14 L st S) ∧
  (∀ (K : Kt QT) (n : Nat) (L : xL) (st : List Value) (S : QT), nx cod_X7_resets cut_X7_resets K (n + 1) 15 L st S = (O_asti aW aW_wi) (nx cod_X7_resets cut_X7_resets K n) 15 L st S) ∧
  (∀ (K : Kt QT) (n : Nat) (L : xL) (st : List Value) (S : QT), nx cod_X7_resets cut_X7_resets K (n + 1) 16 L st S = (O_aload 0 1) (nx cod_X7_resets cut_X7_resets K n) 16 L st S) ∧
  (∀ (K : Kt QT) (n : Nat) (L : xL) (st : List Value) (S : QT), nx cod_X7_resets cut_X7_resets K (n + 1) 17 L st S = (O_getf aW 7 0) (nx cod_X7_resets cut_X7_resets K n) 17 L st S) ∧
  (∀ (K : Kt QT) (n : Nat) (L : xL) (st : List Value) (S : QT), nx cod_X7_resets cut_X7_resets K (n + 1) 20 L st S = (O_int 5 1) (nx cod_X7_resets cut_X7_resets K n) 20 L st S) ∧
  (∀ (K : Kt QT) (n : Nat) (L : xL) (st : List Value) (S : QT), nx cod_X7_resets cut_X7_resets K (n + 1) 21 L st S = (O_ald aW 0) (nx cod_X7_resets cut_X7_resets K n) 21 L st S) ∧
  (∀ (K : Kt QT) (n : Nat) (L : xL) (st : List Value) (S : QT), nx cod_X7_resets cut_X7_resets K (n + 1) 22 L st S = (O_int 1 1) (nx cod_X7_resets cut_X7_resets K n) 22 L st S) ∧
  (∀ (K : Kt QT) (n : Nat) (L : xL) (st : List Value) (S : QT), nx cod_X7_resets cut_X7_resets K (n + 1) 23 L st S = (O_icmp_ne 54) (nx cod_X7_resets cut_X7_resets K n) 23 L st S) ∧
  (∀ (K : Kt QT) (n : Nat) (L : xL) (st : List Value) (S : QT), nx cod_X7_resets cut_X7_resets K (n + 1) 26 L st S = (O_aload 0 1) (nx cod_X7_resets cut_X7_resets K n) 26 L st S) ∧
  (∀ (K : Kt QT) (n : Nat) (L : xL) (st : List Value) (S : QT), nx cod_X7_resets cut_X7_resets K (n + 1) 27 L st S = (O_getf aW 7 0) (nx cod_X7_resets cut_X7_resets K n) 27 L st S) ∧
  (∀ (K : Kt QT) (n : Nat) (L : xL) (st : List Value) (S : QT), nx cod_X7_resets cut_X7_resets K (n + 1) 30 L st S = (O_int 2 1) (nx cod_X7_resets cut_X7_resets K n) 30 L st S) ∧
  (∀ (K : Kt QT) (n : Nat) (L : xL) (st : List Value) (S : QT), nx cod_X7_resets cut_X7_resets K (n + 1) 31 L st S = (O_ald aW 0) (nx cod_X7_resets cut_X7_resets K n) 31 L st S) ∧
  (∀ (K : Kt QT) (n : Nat) (L : xL) (st : List Value) (S : QT), nx cod_X7_resets cut_X7_resets K (n + 1) 32 L st S = (O_aload 0 1) (nx cod_X7_resets cut_X7_resets K n) 32 L st S) ∧
  (∀ (K : Kt QT) (n : Nat) (L : xL) (st : List Value) (S : QT), nx cod_X7_resets cut_X7_resets K (n + 1) 33 L st S = (O_int 12 2) (nx cod_X7_resets cut_X7_resets K n) 33 L st S) ∧
  (∀ (K : Kt QT) (n : Nat) (L : xL) (st : List Value) (S : QT), nx cod_X7_resets cut_X7_resets K (n + 1) 35 L st S = (O_callV 1 0 (fun S => S) (fun _ S' => S') sp_X7_setting) (nx cod_X7_resets cut_X7_resets K n) 35 L st S) ∧
  (∀ (K : Kt QT) (n : Nat) (L : xL) (st : List Value) (S : QT), nx cod_X7_resets cut_X7_resets K (n + 1) 38 L st S = (O_icmp_lt 54) (nx cod_X7_resets cut_X7_resets K n) 38 L st S) ∧
  (∀ (K : Kt QT) (n : Nat) (L : xL) (st : List Value) (S : QT), nx cod_X7_resets cut_X7_resets K (n + 1) 41 L st S = (O_aload 0 1) (nx cod_X7_resets cut_X7_resets K n) 41 L st S) ∧
  (∀ (K : Kt QT) (n : Nat) (L : xL) (st : List Value) (S : QT), nx cod_X7_resets cut_X7_resets K (n + 1) 42 L st S = (O_getf aW 7 0) (nx cod_X7_resets cut_X7_resets K n) 42 L st S) ∧
  (∀ (K : Kt QT) (n : Nat) (L : xL) (st : List Value) (S : QT), nx cod_X7_resets cut_X7_resets K (n + 1) 45 L st S = (O_int 5 1) (nx cod_X7_resets cut_X7_resets K n) 45 L st S) ∧
  (∀ (K : Kt QT) (n : Nat) (L : xL) (st : List Value) (S : QT), nx cod_X7_resets cut_X7_resets K (n + 1) 46 L st S = (O_int 0 1) (nx cod_X7_resets cut_X7_resets K n) 46 L st S) ∧
  (∀ (K : Kt QT) (n : Nat) (L : xL) (st : List Value) (S : QT), nx cod_X7_resets cut_X7_resets K (n + 1) 47 L st S = (O_asti aW aW_wi) (nx cod_X7_resets cut_X7_resets K n) 47 L st S) ∧
  (∀ (K : Kt QT) (n : Nat) (L : xL) (st : List Value) (S : QT), nx cod_X7_resets cut_X7_resets K (n + 1) 48 L st S = (O_aload 0 1) (nx cod_X7_resets cut_X7_resets K n) 48 L st S) ∧
  (∀ (K : Kt QT) (n : Nat) (L : xL) (st : List Value) (S : QT), nx cod_X7_resets cut_X7_resets K (n + 1) 49 L st S = (O_int 5 1) (nx cod_X7_resets cut_X7_resets K n) 49 L st S) ∧
  (∀ (K : Kt QT) (n : Nat) (L : xL) (st : List Value) (S : QT), nx cod_X7_resets cut_X7_resets K (n + 1) 50 L st S = (O_int (-1) 1) (nx cod_X7_resets cut_X7_resets K n) 50 L st S) ∧
  (∀ (K : Kt QT) (n : Nat) (L : xL) (st : List Value) (S : QT), nx cod_X7_resets cut_X7_resets K (n + 1) 51 L st S = (O_callV 2 0 (fun S => S) (fun _ S' => S') spa_X7_event) (nx cod_X7_resets cut_X7_resets K n) 51 L st S) ∧
  (∀ (K : Kt QT) (n : Nat) (L : xL) (st : List Value) (S : QT), nx cod_X7_resets cut_X7_resets K (n + 1) 54 L st S = (O_iload 1 1) (nx cod_X7_resets cut_X7_resets K n) 54 L st S) ∧
  (∀ (K : Kt QT) (n : Nat) (L : xL) (st : List Value) (S : QT), nx cod_X7_resets cut_X7_resets K (n + 1) 55 L st S = (O_iret) (nx cod_X7_resets cut_X7_resets K n) 55 L st S) ∧
  (∀ (K : Kt QT) (n : Nat) (L : xL) (st : List Value) (S : QT), nx cod_X7_resets cut_X7_resets K (n + 1) 100000 L st S = K 100000 L st S) := by
  repeat' apply And.intro
  all_goals (intros; rfl)
set_option maxRecDepth 100000 in
theorem mk_X7_resets {P P' : QT} {r : Option Value}  (body : ∀ E : En, CodOk E aW cod_X7_resets → Gd E aW 100000 [] r.toList P' → Gd E aW 0 [some (.ref 0), none] [] P) : Con yX7_resets cX7_resets 2 (some .int) 1 aW [.ref 0] P r P' :=
  Con.of (by decide) ((aW_len P').trans (aW_len P).symm) rfl (Nat.le_of_ble_eq_true rfl) (fun E F G hr => body E (okc_X7_resets F G) hr)
set_option maxRecDepth 10000 in
theorem con_X7_resets (S : ST) (M : MT) (fl : Bool)  (hp : S.inv 1) : Con yX7_resets cX7_resets 2 (some .int) 1 aW [.ref 0] (S, M, fl) (some (.int (S.trips))) (((S.sTrips 0).goOn, M.evs fl (decide (¬ S.dry = 0 ∧ ¬ S.level < S.settings 12)) 5, fl)) := by
  refine mk_X7_resets (fun E C hr => ?_)
  have hE := ST.inv_rm (n := 0) hp
  have hd := dry_b hp.2.2.2.1
  have hg : (S.sTrips 0).goOn = if ¬ S.dry = 0 ∧ ¬ S.level < S.settings 12 then ((S.sTrips 0).sDry 0).event 5 (-1) else S.sTrips 0 := rfl
  rw [hg] at hr
  unfold MT.evs at hr
  clear hp hg
  simp only [hd, decide_eq_true_eq] at hr
  by_cases c1 : S.dry = 1
  · by_cases c2 : S.level < S.settings 12
    · rw [if_neg (fun z => z.2 c2), if_neg (fun z => z.2 c2)] at hr
      (refine nx_ok C (cuts := cut_X7_resets) 1000 _ _ _ _ ?_; simp only [w_X7_resets, ops_eq, xst_eq, call_eq, oK_eq, Option.toList_some, Option.toList_none, List.cons_append, List.nil_append, List.length_cons, List.length_nil, true_and, and_true, Nat.reduceAdd, aW_F, aW_A, aW_P, aW_w, abs_eq, O_asti_eq, v170, cl_eq, ST_id, MT_gs, ST_gs, PT_gs, ZT_gs, NT_gs, ET_gs, se_X7_setting, sea_X7_event, v19_eq, v8_eq, hE, c1, c2])
      ((repeat' (with_reducible first | apply And.intro | intro _)) <;> first | (with_reducible assumption) | (with_reducible exact Nat.zero_le _) | exact absurd trivial ‹¬True› | (simp_all [ST_id, MT_gs, ST_gs, PT_gs, ZT_gs, NT_gs, ET_gs]; done) | assumption | simp_all)
    · rw [if_pos ⟨c1, c2⟩, if_pos ⟨c1, c2⟩] at hr
      (refine nx_ok C (cuts := cut_X7_resets) 1000 _ _ _ _ ?_; simp only [w_X7_resets, ops_eq, xst_eq, call_eq, oK_eq, Option.toList_some, Option.toList_none, List.cons_append, List.nil_append, List.length_cons, List.length_nil, true_and, and_true, Nat.reduceAdd, aW_F, aW_A, aW_P, aW_w, abs_eq, O_asti_eq, v170, cl_eq, ST_id, MT_gs, ST_gs, PT_gs, ZT_gs, NT_gs, ET_gs, se_X7_setting, sea_X7_event, v19_eq, v8_eq, hE, c1, c2])
      ((repeat' (with_reducible first | apply And.intro | intro _)) <;> first | (with_reducible assumption) | (with_reducible exact Nat.zero_le _) | exact absurd trivial ‹¬True› | (simp_all [ST_id, MT_gs, ST_gs, PT_gs, ZT_gs, NT_gs, ET_gs]; done) | assumption | simp_all)
  · rw [if_neg (fun z => c1 z.1), if_neg (fun z => c1 z.1)] at hr
    (refine nx_ok C (cuts := cut_X7_resets) 1000 _ _ _ _ ?_; simp only [w_X7_resets, ops_eq, xst_eq, call_eq, oK_eq, Option.toList_some, Option.toList_none, List.cons_append, List.nil_append, List.length_cons, List.length_nil, true_and, and_true, Nat.reduceAdd, aW_F, aW_A, aW_P, aW_w, abs_eq, O_asti_eq, v170, cl_eq, ST_id, MT_gs, ST_gs, PT_gs, ZT_gs, NT_gs, ET_gs, se_X7_setting, sea_X7_event, v19_eq, v8_eq, hE, c1])
    ((repeat' (with_reducible first | apply And.intro | intro _)) <;> first | (with_reducible assumption) | (with_reducible exact Nat.zero_le _) | exact absurd trivial ‹¬True› | (simp_all [ST_id, MT_gs, ST_gs, PT_gs, ZT_gs, NT_gs, ET_gs]; done) | assumption | simp_all)
def spc_X7_resets (S : ST) (M : MT) (fl : Bool)  (K : Option Value → QT → Prop) : Prop := (S.inv 1) ∧ K (some (.int (S.trips))) (((S.sTrips 0).goOn, M.evs fl (decide (¬ S.dry = 0 ∧ ¬ S.level < S.settings 12)) 5, fl))
def sp_X7_resets : Sp QT := fun av q K => match av with
  | [.ref 0] => spc_X7_resets q.1 q.2.1 q.2.2  K
  | _ => False
theorem se_X7_resets (S : ST) (M : MT) (fl : Bool)  (K : Option Value → QT → Prop) : sp_X7_resets [.ref 0] (S, M, fl) K = ((S.inv 1) ∧ K (some (.int (S.trips))) (((S.sTrips 0).goOn, M.evs fl (decide (¬ S.dry = 0 ∧ ¬ S.level < S.settings 12)) 5, fl))) := rfl
theorem spok_X7_resets : SpOk yX7_resets cX7_resets 2 (some .int) 1 aW sp_X7_resets := by
  intro av q K h
  unfold sp_X7_resets at h
  split at h
  · refine ⟨_, _, ?_, con_X7_resets q.1 q.2.1 q.2.2  h.1, h.2⟩; trivial
  · exact h.elim
theorem abs_out (S : ST) {i : Nat} (h : ¬ i < 170) : abs S i = 0 := by
  unfold abs blk
  rw [if_neg (by omega), if_neg (by omega), if_neg (by omega), if_neg (by omega), if_neg (by omega), if_neg (by omega), if_neg (by omega)]
theorem cona_X7_takeBack (S : ST) (M : MT) (S0 : ST) (h : ∀ i, i < 170 → M.aside i = abs S0 i) : Con yX7_takeBack cX7_takeBack 2 none 0 aW [.ref 0] (S, M, false) none (S0, M, false) := by
  refine (con_X7_takeBack ((M.sAll (abs S)).sSeen (sn (S, M, false)))).re (toW' := aW) (Q := (S, M, false)) (Q' := (S0, M, false)) rfl ?_
  have e : cp 0 0 M.aside (abs S) 170 = abs S0 := by
    funext i
    rw [cp_at]
    by_cases c : i < 170
    · rw [if_pos (by omega), show 0 + (i - 0) = i by omega, h i c]
    · rw [if_neg (by omega), abs_out S c, abs_out S0 c]
  show mW (((M.sAll (abs S)).sSeen M.seen).sAll (cp 0 0 M.aside (abs S) 170)) = _
  rw [e]
  rfl
def spca_X7_takeBack (S : ST) (M : MT) (fl : Bool) (K : Option Value → QT → Prop) : Prop := ∃ S0 : ST, fl = false ∧ (∀ i, i < 170 → M.aside i = abs S0 i) ∧ K none (S0, M, false)
def spa_X7_takeBack : Sp QT := fun av q K => match av with
  | [.ref 0] => spca_X7_takeBack q.1 q.2.1 q.2.2 K
  | _ => False
theorem sea_X7_takeBack (S : ST) (M : MT) (fl : Bool) (K : Option Value → QT → Prop) : spa_X7_takeBack [.ref 0] (S, M, fl) K = (∃ S0 : ST, fl = false ∧ (∀ i, i < 170 → M.aside i = abs S0 i) ∧ K none (S0, M, false)) := rfl
theorem spoka_X7_takeBack : SpOk yX7_takeBack cX7_takeBack 2 none 0 aW spa_X7_takeBack := by
  intro av q K h
  unfold spa_X7_takeBack at h
  split at h
  · obtain ⟨S, M, fl⟩ := q
    obtain ⟨S0, h1, h2, h3⟩ := h
    dsimp only at h1 h2 h3
    subst h1
    refine ⟨none, (S0, M, false), ?_, cona_X7_takeBack S M S0 h2, h3⟩
    trivial
  · exact h.elim
theorem lay_at (M : MT) (S : ST) : ∀ i, i < 170 → (M.lay S).aside i = abs S i := fun i hi => by
  show cp 0 0 (abs S) M.aside 170 i = _
  rw [cp_at, if_pos (by omega), show 0 + (i - 0) = i by omega]
theorem lay_seen (M : MT) (S : ST) (x : Int32) : ((M.lay S).sSeen x).aside = (M.lay S).aside := rfl
def ST.fore (S : ST) (w : Int32) : Int32 := if w = 2 then S.P.running else if w = 3 then S.P.vrb else if w = 4 then S.supply else if w = 0 then S.pressure else S.level
theorem lit_i : ((1 : Int32) + 0 = 1) ∧ ((1 : Int32) + 1 = 2) := by decide
theorem okF {w : Int32} (h : inR w 0 4 = true) : w = 0 ∨ w = 1 ∨ w = 2 ∨ w = 3 ∨ w = 4 := by
  obtain ⟨h1, h2⟩ := inR_n h (by decide) (by decide)
  simp only [inR, decide_eq_true_eq] at h
  have h3 := h.2
  rw [h1, show (4 : Int32) = nI 4 from rfl, nI_ltI (by omega) (by omega)] at h3
  rw [h1]
  have : w.toNatClampNeg = 0 ∨ w.toNatClampNeg = 1 ∨ w.toNatClampNeg = 2 ∨ w.toNatClampNeg = 3 ∨ w.toNatClampNeg = 4 := by omega
  rcases this with q | q | q | q | q <;> rw [q]
  · exact Or.inl rfl
  · exact Or.inr (Or.inl rfl)
  · exact Or.inr (Or.inr (Or.inl rfl))
  · exact Or.inr (Or.inr (Or.inr (Or.inl rfl)))
  · exact Or.inr (Or.inr (Or.inr (Or.inr rfl)))
theorem inR_cl {m : Int32} {b : Nat} (h : inR m 1 (nI b) = true) (hb : b < 100000) : m = nI m.toNatClampNeg ∧ m.toNatClampNeg ≤ b := by
  obtain ⟨h1, h2⟩ := inR_n h (by decide) (by rw [nI_toInt (by omega)]; omega)
  simp only [inR, decide_eq_true_eq] at h
  have h3 := h.2
  rw [h1, nI_ltI (by omega) (by omega)] at h3
  exact ⟨h1, by omega⟩
def cod_X7_foresee : List (Nat × Op QT) := [(0, O_iload 1 1), (1, O_i2l), (2, O_long 1 1), (3, O_long 1440 3), (6, O_callS 3 sp_X7_in), (9, O_if_eq 24), (12, O_iload 2 1), (13, O_i2l), (14, O_long 0 1), (15, O_long 4 3), (18, O_callS 3 sp_X7_in), (21, O_if_ne 27), (24, O_int (-1000001) 2), (26, O_iret), (27, O_aload 0 1), (28, O_callV 0 0 (fun S => S) (fun _ S' => S') spa_X7_layAside), (31, O_aload 0 1), (32, O_iload 1 1), (33, O_callV 1 0 (fun S => S) (fun _ S' => S') sp_X7_minutes), (36, O_iload 2 1), (37, O_int 2 1), (38, O_icmp_ne 48), (41, O_aload 0 1), (42, O_callV 0 0 (fun S => S) (fun _ S' => S') sp_X7_running), (45, O_goto 79), (48, O_iload 2 1), (49, O_int 3 1), (50, O_icmp_ne 62), (53, O_aload 0 1), (54, O_getf aW 7 0), (57, O_int 4 1), (58, O_ald aW 0), (59, O_goto 79), (62, O_aload 0 1), (63, O_getf aW 7 0), (66, O_iload 2 1), (67, O_int 4 1), (68, O_icmp_ne 75), (71, O_int 3 1), (72, O_goto 78), (75, O_int 1 1), (76, O_iload 2 1), (77, O_iadd), (78, O_ald aW 0), (79, O_istore 3 1), (80, O_aload 0 1), (81, O_callV 0 0 (fun S => S) (fun _ S' => S') spa_X7_takeBack), (84, O_iload 2 1), (85, O_int 3 1), (86, O_icmp_ne 99), (89, O_iload 3 1), (90, O_int (-1) 1), (91, O_icmp_ne 99), (94, O_int (-1000004) 2), (96, O_goto 100), (99, O_iload 3 1), (100, O_iret)]
abbrev cut_X7_foresee : List Nat := [36, 79]
set_option maxRecDepth 100000 in
theorem okc_X7_foresee {E : En} (F : Fx E RX7 cX7_foresee 4 8) (G : Fr E (some .int)) : CodOk E aW cod_X7_foresee := by
  unfold CodOk cod_X7_foresee
  refine List.forall_mem_cons.mpr ⟨ok_iload_n F dX7_foresee_0 rfl (by decide), ?_⟩
  refine List.forall_mem_cons.mpr ⟨ok_i2l F dX7_foresee_1 (by decide), ?_⟩
  refine List.forall_mem_cons.mpr ⟨ok_lconst F dX7_foresee_2 (by decide) (by decide), ?_⟩
  refine List.forall_mem_cons.mpr ⟨ok_ldc2 F (ix := 52) (wsHas_mem (l := [Jvm.Cond.constantLong RX7 52 1440]) (by decide +kernel) (by simp)) dX7_foresee_3 (by decide), ?_⟩
  refine List.forall_mem_cons.mpr ⟨ok_callS F spok_X7_in (by decide +kernel) rfl (by decide) dX7_foresee_6 (by decide), ?_⟩
  refine List.forall_mem_cons.mpr ⟨ok_if_eq F dX7_foresee_9 (by decide) (by decide) (by decide), ?_⟩
  refine List.forall_mem_cons.mpr ⟨ok_iload_n F dX7_foresee_12 rfl (by decide), ?_⟩
  refine List.forall_mem_cons.mpr ⟨ok_i2l F dX7_foresee_13 (by decide), ?_⟩
  refine List.forall_mem_cons.mpr ⟨ok_lconst F dX7_foresee_14 (by decide) (by decide), ?_⟩
  refine List.forall_mem_cons.mpr ⟨ok_ldc2 F (ix := 219) (wsHas_mem (l := [Jvm.Cond.constantLong RX7 219 4]) (by decide +kernel) (by simp)) dX7_foresee_15 (by decide), ?_⟩
  refine List.forall_mem_cons.mpr ⟨ok_callS F spok_X7_in (by decide +kernel) rfl (by decide) dX7_foresee_18 (by decide), ?_⟩
  refine List.forall_mem_cons.mpr ⟨ok_if_ne F dX7_foresee_21 (by decide) (by decide) (by decide), ?_⟩
  refine List.forall_mem_cons.mpr ⟨ok_ldc F (ix := 62) (wsHas_mem (l := [Jvm.Cond.constant RX7 62 (-1000001)]) (by decide +kernel) (by simp)) dX7_foresee_24 (by decide), ?_⟩
  refine List.forall_mem_cons.mpr ⟨ok_iret F G dX7_foresee_26 (by decide), ?_⟩
  refine List.forall_mem_cons.mpr ⟨ok_aload_n F dX7_foresee_27 rfl (by decide), ?_⟩
  refine List.forall_mem_cons.mpr ⟨ok_callV F spoka_X7_layAside (ln_id aW) rcv_aW (by decide +kernel) (by decide) dX7_foresee_28 (by decide), ?_⟩
  refine List.forall_mem_cons.mpr ⟨ok_aload_n F dX7_foresee_31 rfl (by decide), ?_⟩
  refine List.forall_mem_cons.mpr ⟨ok_iload_n F dX7_foresee_32 rfl (by decide), ?_⟩
  refine List.forall_mem_cons.mpr ⟨ok_callV F spok_X7_minutes (ln_id aW) rcv_aW (by decide +kernel) (by decide) dX7_foresee_33 (by decide), ?_⟩
  refine List.forall_mem_cons.mpr ⟨ok_iload_n F dX7_foresee_36 rfl (by decide), ?_⟩
  refine List.forall_mem_cons.mpr ⟨ok_iconst F dX7_foresee_37 (by decide) (by decide), ?_⟩
  refine List.forall_mem_cons.mpr ⟨ok_icmp_ne F dX7_foresee_38 (by decide) (by decide) (by decide), ?_⟩
  refine List.forall_mem_cons.mpr ⟨ok_aload_n F dX7_foresee_41 rfl (by decide), ?_⟩
  refine List.forall_mem_cons.mpr ⟨ok_callV F spok_X7_running (ln_id aW) rcv_aW (by decide +kernel) (by decide) dX7_foresee_42 (by decide), ?_⟩
  refine List.forall_mem_cons.mpr ⟨ok_goto F dX7_foresee_45 (by decide) (by decide) (by decide), ?_⟩
  refine List.forall_mem_cons.mpr ⟨ok_iload_n F dX7_foresee_48 rfl (by decide), ?_⟩
  refine List.forall_mem_cons.mpr ⟨ok_iconst F dX7_foresee_49 (by decide) (by decide), ?_⟩
  refine List.forall_mem_cons.mpr ⟨ok_icmp_ne F dX7_foresee_50 (by decide) (by decide) (by decide), ?_⟩
  refine List.forall_mem_cons.mpr ⟨ok_aload_n F dX7_foresee_53 rfl (by decide), ?_⟩
  refine List.forall_mem_cons.mpr ⟨ok_getf F flX7_7 dX7_foresee_54 (by decide), ?_⟩
  refine List.forall_mem_cons.mpr ⟨ok_iconst F dX7_foresee_57 (by decide) (by decide), ?_⟩
  refine List.forall_mem_cons.mpr ⟨ok_iald F dX7_foresee_58 (by decide), ?_⟩
  refine List.forall_mem_cons.mpr ⟨ok_goto F dX7_foresee_59 (by decide) (by decide) (by decide), ?_⟩
  refine List.forall_mem_cons.mpr ⟨ok_aload_n F dX7_foresee_62 rfl (by decide), ?_⟩
  refine List.forall_mem_cons.mpr ⟨ok_getf F flX7_7 dX7_foresee_63 (by decide), ?_⟩
  refine List.forall_mem_cons.mpr ⟨ok_iload_n F dX7_foresee_66 rfl (by decide), ?_⟩
  refine List.forall_mem_cons.mpr ⟨ok_iconst F dX7_foresee_67 (by decide) (by decide), ?_⟩
  refine List.forall_mem_cons.mpr ⟨ok_icmp_ne F dX7_foresee_68 (by decide) (by decide) (by decide), ?_⟩
  refine List.forall_mem_cons.mpr ⟨ok_iconst F dX7_foresee_71 (by decide) (by decide), ?_⟩
  refine List.forall_mem_cons.mpr ⟨ok_goto F dX7_foresee_72 (by decide) (by decide) (by decide), ?_⟩
  refine List.forall_mem_cons.mpr ⟨ok_iconst F dX7_foresee_75 (by decide) (by decide), ?_⟩
  refine List.forall_mem_cons.mpr ⟨ok_iload_n F dX7_foresee_76 rfl (by decide), ?_⟩
  refine List.forall_mem_cons.mpr ⟨ok_iadd F dX7_foresee_77 (by decide), ?_⟩
  refine List.forall_mem_cons.mpr ⟨ok_iald F dX7_foresee_78 (by decide), ?_⟩
  refine List.forall_mem_cons.mpr ⟨ok_istore_n F dX7_foresee_79 rfl (by decide) (by decide), ?_⟩
  refine List.forall_mem_cons.mpr ⟨ok_aload_n F dX7_foresee_80 rfl (by decide), ?_⟩
  refine List.forall_mem_cons.mpr ⟨ok_callV F spoka_X7_takeBack (ln_id aW) rcv_aW (by decide +kernel) (by decide) dX7_foresee_81 (by decide), ?_⟩
  refine List.forall_mem_cons.mpr ⟨ok_iload_n F dX7_foresee_84 rfl (by decide), ?_⟩
  refine List.forall_mem_cons.mpr ⟨ok_iconst F dX7_foresee_85 (by decide) (by decide), ?_⟩
  refine List.forall_mem_cons.mpr ⟨ok_icmp_ne F dX7_foresee_86 (by decide) (by decide) (by decide), ?_⟩
  refine List.forall_mem_cons.mpr ⟨ok_iload_n F dX7_foresee_89 rfl (by decide), ?_⟩
  refine List.forall_mem_cons.mpr ⟨ok_iconst F dX7_foresee_90 (by decide) (by decide), ?_⟩
  refine List.forall_mem_cons.mpr ⟨ok_icmp_ne F dX7_foresee_91 (by decide) (by decide) (by decide), ?_⟩
  refine List.forall_mem_cons.mpr ⟨ok_ldc F (ix := 136) (wsHas_mem (l := [Jvm.Cond.constant RX7 136 (-1000004)]) (by decide +kernel) (by simp)) dX7_foresee_94 (by decide), ?_⟩
  refine List.forall_mem_cons.mpr ⟨ok_goto F dX7_foresee_96 (by decide) (by decide) (by decide), ?_⟩
  refine List.forall_mem_cons.mpr ⟨ok_iload_n F dX7_foresee_99 rfl (by decide), ?_⟩
  refine List.forall_mem_cons.mpr ⟨ok_iret F G dX7_foresee_100 (by decide), ?_⟩
  exact fun _ h => absurd h List.not_mem_nil
set_option maxRecDepth 100000 in
theorem w_X7_foresee : (∀ (K : Kt QT) (n : Nat) (L : xL) (st : List Value) (S : QT), nx cod_X7_foresee cut_X7_foresee K (n + 1) 0 L st S = (O_iload 1 1) (nx cod_X7_foresee cut_X7_foresee K n) 0 L st S) ∧
  (∀ (K : Kt QT) (n : Nat) (L : xL) (st : List Value) (S : QT), nx cod_X7_foresee cut_X7_foresee K (n + 1) 1 L st S = (O_i2l) (nx cod_X7_foresee cut_X7_foresee K n) 1 L st S) ∧
  (∀ (K : Kt QT) (n : Nat) (L : xL) (st : List Value) (S : QT), nx cod_X7_foresee cut_X7_foresee K (n + 1) 2 L st S = (O_long 1 1) (nx cod_X7_foresee cut_X7_foresee K n) 2 L st S) ∧
  (∀ (K : Kt QT) (n : Nat) (L : xL) (st : List Value) (S : QT), nx cod_X7_foresee cut_X7_foresee K (n + 1) 3 L st S = (O_long 1440 3) (nx cod_X7_foresee cut_X7_foresee K n) 3 L st S) ∧
  (∀ (K : Kt QT) (n : Nat) (L : xL) (st : List Value) (S : QT), nx cod_X7_foresee cut_X7_foresee K (n + 1) 6 L st S = (O_callS 3 sp_X7_in) (nx cod_X7_foresee cut_X7_foresee K n) 6 L st S) ∧
  (∀ (K : Kt QT) (n : Nat) (L : xL) (st : List Value) (S : QT), nx cod_X7_foresee cut_X7_foresee K (n + 1) 9 L st S = (O_if_eq 24) (nx cod_X7_foresee cut_X7_foresee K n) 9 L st S) ∧
  (∀ (K : Kt QT) (n : Nat) (L : xL) (st : List Value) (S : QT), nx cod_X7_foresee cut_X7_foresee K (n + 1) 12 L st S = (O_iload 2 1) (nx cod_X7_foresee cut_X7_foresee K n) 12 L st S) ∧
  (∀ (K : Kt QT) (n : Nat) (L : xL) (st : List Value) (S : QT), nx cod_X7_foresee cut_X7_foresee K (n + 1) 13 L st S = (O_i2l) (nx cod_X7_foresee cut_X7_foresee K n) 13 L st S) ∧
  (∀ (K : Kt QT) (n : Nat) (L : xL) (st : List Value) (S : QT), nx cod_X7_foresee cut_X7_foresee K (n + 1) 14 L st S = (O_long 0 1) (nx cod_X7_foresee cut_X7_foresee K n) 14 L st S) ∧
  (∀ (K : Kt QT) (n : Nat) (L : xL) (st : List Value) (S : QT), nx cod_X7_foresee cut_X7_foresee K (n + 1) 15 L st S = (O_long 4 3) (nx cod_X7_foresee cut_X7_foresee K n) 15 L st S) ∧
  (∀ (K : Kt QT) (n : Nat) (L : xL) (st : List Value) (S : QT), nx cod_X7_foresee cut_X7_foresee K (n + 1) 18 L st S = (O_callS 3 sp_X7_in) (nx cod_X7_foresee cut_X7_foresee K n) 18 L st S) ∧
  (∀ (K : Kt QT) (n : Nat) (L : xL) (st : List Value) (S : QT), nx cod_X7_foresee cut_X7_foresee K (n + 1) 21 L st S = (O_if_ne 27) (nx cod_X7_foresee cut_X7_foresee K n) 21 L st S) ∧
  (∀ (K : Kt QT) (n : Nat) (L : xL) (st : List Value) (S : QT), nx cod_X7_foresee cut_X7_foresee K (n + 1) 24 L st S = (O_int (-1000001) 2) (nx cod_X7_foresee cut_X7_foresee K n) 24 L st S) ∧
  (∀ (K : Kt QT) (n : Nat) (L : xL) (st : List Value) (S : QT), nx cod_X7_foresee cut_X7_foresee K (n + 1) 26 L st S = (O_iret) (nx cod_X7_foresee cut_X7_foresee K n) 26 L st S) ∧
  (∀ (K : Kt QT) (n : Nat) (L : xL) (st : List Value) (S : QT), nx cod_X7_foresee cut_X7_foresee K (n + 1) 27 L st S = (O_aload 0 1) (nx cod_X7_foresee cut_X7_foresee K n) 27 L st S) ∧
  (∀ (K : Kt QT) (n : Nat) (L : xL) (st : List Value) (S : QT), nx cod_X7_foresee cut_X7_foresee K (n + 1) 28 L st S = (O_callV 0 0 (fun S => S) (fun _ S' => S') spa_X7_layAside) (nx cod_X7_foresee cut_X7_foresee K n) 28 L st S) ∧
  (∀ (K : Kt QT) (n : Nat) (L : xL) (st : List Value) (S : QT), nx cod_X7_foresee cut_X7_foresee K (n + 1) 31 L st S = (O_aload 0 1) (nx cod_X7_foresee cut_X7_foresee K n) 31 L st S) ∧
  (∀ (K : Kt QT) (n : Nat) (L : xL) (st : List Value) (S : QT), nx cod_X7_foresee cut_X7_foresee K (n + 1) 32 L st S = (O_iload 1 1) (nx cod_X7_foresee cut_X7_foresee K n) 32 L st S) ∧
  (∀ (K : Kt QT) (n : Nat) (L : xL) (st : List Value) (S : QT), nx cod_X7_foresee cut_X7_foresee K (n + 1) 33 L st S = (O_callV 1 0 (fun S => S) (fun _ S' => S') sp_X7_minutes) (nx cod_X7_foresee cut_X7_foresee K n) 33 L st S) ∧
  (∀ (K : Kt QT) (n : Nat) (L : xL) (st : List Value) (S : QT), nx cod_X7_foresee cut_X7_foresee K (n + 1) 36 L st S = K 36 L st S) ∧
  (∀ (K : Kt QT) (n : Nat) (L : xL) (st : List Value) (S : QT), nx1 cod_X7_foresee cut_X7_foresee K n 36 L st S = (O_iload 2 1) (nx cod_X7_foresee cut_X7_foresee K n) 36 L st S) ∧
  (∀ (K : Kt QT) (n : Nat) (L : xL) (st : List Value) (S : QT), nx cod_X7_foresee cut_X7_foresee K (n + 1) 37 L st S = (O_int 2 1) (nx cod_X7_foresee cut_X7_foresee K n) 37 L st S) ∧
  (∀ (K : Kt QT) (n : Nat) (L : xL) (st : List Value) (S : QT), nx cod_X7_foresee cut_X7_foresee K (n + 1) 38 L st S = (O_icmp_ne 48) (nx cod_X7_foresee cut_X7_foresee K n) 38 L st S) ∧
  (∀ (K : Kt QT) (n : Nat) (L : xL) (st : List Value) (S : QT), nx cod_X7_foresee cut_X7_foresee K (n + 1) 41 L st S = (O_aload 0 1) (nx cod_X7_foresee cut_X7_foresee K n) 41 L st S) ∧
  (∀ (K : Kt QT) (n : Nat) (L : xL) (st : List Value) (S : QT), nx cod_X7_foresee cut_X7_foresee K (n + 1) 42 L st S = (O_callV 0 0 (fun S => S) (fun _ S' => S') sp_X7_running) (nx cod_X7_foresee cut_X7_foresee K n) 42 L st S) ∧
  (∀ (K : Kt QT) (n : Nat) (L : xL) (st : List Value) (S : QT), nx cod_X7_foresee cut_X7_foresee K (n + 1) 45 L st S = (O_goto 79) (nx cod_X7_foresee cut_X7_foresee K n) 45 L st S) ∧
  (∀ (K : Kt QT) (n : Nat) (L : xL) (st : List Value) (S : QT), nx cod_X7_foresee cut_X7_foresee K (n + 1) 48 L st S = (O_iload 2 1) (nx cod_X7_foresee cut_X7_foresee K n) 48 L st S) ∧
  (∀ (K : Kt QT) (n : Nat) (L : xL) (st : List Value) (S : QT), nx cod_X7_foresee cut_X7_foresee K (n + 1) 49 L st S = (O_int 3 1) (nx cod_X7_foresee cut_X7_foresee K n) 49 L st S) ∧
  (∀ (K : Kt QT) (n : Nat) (L : xL) (st : List Value) (S : QT), nx cod_X7_foresee cut_X7_foresee K (n + 1) 50 L st S = (O_icmp_ne 62) (nx cod_X7_foresee cut_X7_foresee K n) 50 L st S) ∧
  (∀ (K : Kt QT) (n : Nat) (L : xL) (st : List Value) (S : QT), nx cod_X7_foresee cut_X7_foresee K (n + 1) 53 L st S = (O_aload 0 1) (nx cod_X7_foresee cut_X7_foresee K n) 53 L st S) ∧
  (∀ (K : Kt QT) (n : Nat) (L : xL) (st : List Value) (S : QT), nx cod_X7_foresee cut_X7_foresee K (n + 1) 54 L st S = (O_getf aW 7 0) (nx cod_X7_foresee cut_X7_foresee K n) 54 L st S) ∧
  (∀ (K : Kt QT) (n : Nat) (L : xL) (st : List Value) (S : QT), nx cod_X7_foresee cut_X7_foresee K (n + 1) 57 L st S = (O_int 4 1) (nx cod_X7_foresee cut_X7_foresee K n) 57 L st S) ∧
  (∀ (K : Kt QT) (n : Nat) (L : xL) (st : List Value) (S : QT), nx cod_X7_foresee cut_X7_foresee K (n + 1) 58 L st S = (O_ald aW 0) (nx cod_X7_foresee cut_X7_foresee K n) 58 L st S) ∧
  (∀ (K : Kt QT) (n : Nat) (L : xL) (st : List Value) (S : QT), nx cod_X7_foresee cut_X7_foresee K (n + 1) 59 L st S = (O_goto 79) (nx cod_X7_foresee cut_X7_foresee K n) 59 L st S) ∧
  (∀ (K : Kt QT) (n : Nat) (L : xL) (st : List Value) (S : QT), nx cod_X7_foresee cut_X7_foresee K (n + 1) 62 L st S = (O_aload 0 1) (nx cod_X7_foresee cut_X7_foresee K n) 62 L st S) ∧
  (∀ (K : Kt QT) (n : Nat) (L : xL) (st : List Value) (S : QT), nx cod_X7_foresee cut_X7_foresee K (n + 1) 63 L st S = (O_getf aW 7 0) (nx cod_X7_foresee cut_X7_foresee K n) 63 L st S) ∧
  (∀ (K : Kt QT) (n : Nat) (L : xL) (st : List Value) (S : QT), nx cod_X7_foresee cut_X7_foresee K (n + 1) 66 L st S = (O_iload 2 1) (nx cod_X7_foresee cut_X7_foresee K n) 66 L st S) ∧
  (∀ (K : Kt QT) (n : Nat) (L : xL) (st : List Value) (S : QT), nx cod_X7_foresee cut_X7_foresee K (n + 1) 67 L st S = (O_int 4 1) (nx cod_X7_foresee cut_X7_foresee K n) 67 L st S) ∧
  (∀ (K : Kt QT) (n : Nat) (L : xL) (st : List Value) (S : QT), nx cod_X7_foresee cut_X7_foresee K (n + 1) 68 L st S = (O_icmp_ne 75) (nx cod_X7_foresee cut_X7_foresee K n) 68 L st S) ∧
  (∀ (K : Kt QT) (n : Nat) (L : xL) (st : List Value) (S : QT), nx cod_X7_foresee cut_X7_foresee K (n + 1) 71 L st S = (O_int 3 1) (nx cod_X7_foresee cut_X7_foresee K n) 71 L st S) ∧
  (∀ (K : Kt QT) (n : Nat) (L : xL) (st : List Value) (S : QT), nx cod_X7_foresee cut_X7_foresee K (n + 1) 72 L st S = (O_goto 78) (nx cod_X7_foresee cut_X7_foresee K n) 72 L st S) ∧
  (∀ (K : Kt QT) (n : Nat) (L : xL) (st : List Value) (S : QT), nx cod_X7_foresee cut_X7_foresee K (n + 1) 75 L st S = (O_int 1 1) (nx cod_X7_foresee cut_X7_foresee K n) 75 L st S) ∧
  (∀ (K : Kt QT) (n : Nat) (L : xL) (st : List Value) (S : QT), nx cod_X7_foresee cut_X7_foresee K (n + 1) 76 L st S = (O_iload 2 1) (nx cod_X7_foresee cut_X7_foresee K n) 76 L st S) ∧
  (∀ (K : Kt QT) (n : Nat) (L : xL) (st : List Value) (S : QT), nx cod_X7_foresee cut_X7_foresee K (n + 1) 77 L st S = (O_iadd) (nx cod_X7_foresee cut_X7_foresee K n) 77 L st S) ∧
  (∀ (K : Kt QT) (n : Nat) (L : xL) (st : List Value) (S : QT), nx cod_X7_foresee cut_X7_foresee K (n + 1) 78 L st S = (O_ald aW 0) (nx cod_X7_foresee cut_X7_foresee K n) 78 L st S) ∧
  (∀ (K : Kt QT) (n : Nat) (L : xL) (st : List Value) (S : QT), nx cod_X7_foresee cut_X7_foresee K (n + 1) 79 L st S = K 79 L st S) ∧
  (∀ (K : Kt QT) (n : Nat) (L : xL) (st : List Value) (S : QT), nx1 cod_X7_foresee cut_X7_foresee K n 79 L st S = (O_istore 3 1) (nx cod_X7_foresee cut_X7_foresee K n) 79 L st S) ∧
  (∀ (K : Kt QT) (n : Nat) (L : xL) (st : List Value) (S : QT), nx cod_X7_foresee cut_X7_foresee K (n + 1) 80 L st S = (O_aload 0 1) (nx cod_X7_foresee cut_X7_foresee K n) 80 L st S) ∧
  (∀ (K : Kt QT) (n : Nat) (L : xL) (st : List Value) (S : QT), nx cod_X7_foresee cut_X7_foresee K (n + 1) 81 L st S = (O_callV 0 0 (fun S => S) (fun _ S' => S') spa_X7_takeBack) (nx cod_X7_foresee cut_X7_foresee K n) 81 L st S) ∧
  (∀ (K : Kt QT) (n : Nat) (L : xL) (st : List Value) (S : QT), nx cod_X7_foresee cut_X7_foresee K (n + 1) 84 L st S = (O_iload 2 1) (nx cod_X7_foresee cut_X7_foresee K n) 84 L st S) ∧
  (∀ (K : Kt QT) (n : Nat) (L : xL) (st : List Value) (S : QT), nx cod_X7_foresee cut_X7_foresee K (n + 1) 85 L st S = (O_int 3 1) (nx cod_X7_foresee cut_X7_foresee K n) 85 L st S) ∧
  (∀ (K : Kt QT) (n : Nat) (L : xL) (st : List Value) (S : QT), nx cod_X7_foresee cut_X7_foresee K (n + 1) 86 L st S = (O_icmp_ne 99) (nx cod_X7_foresee cut_X7_foresee K n) 86 L st S) ∧
  (∀ (K : Kt QT) (n : Nat) (L : xL) (st : List Value) (S : QT), nx cod_X7_foresee cut_X7_foresee K (n + 1) 89 L st S = (O_iload 3 1) (nx cod_X7_foresee cut_X7_foresee K n) 89 L st S) ∧
  (∀ (K : Kt QT) (n : Nat) (L : xL) (st : List Value) (S : QT), nx cod_X7_foresee cut_X7_foresee K (n + 1) 90 L st S = (O_int (-1) 1) (nx cod_X7_foresee cut_X7_foresee K n) 90 L st S) ∧
  (∀ (K : Kt QT) (n : Nat) (L : xL) (st : List Value) (S : QT), nx cod_X7_foresee cut_X7_foresee K (n + 1) 91 L st S = (O_icmp_ne 99) (nx cod_X7_foresee cut_X7_foresee K n) 91 L st S) ∧
  (∀ (K : Kt QT) (n : Nat) (L : xL) (st : List Value) (S : QT), nx cod_X7_foresee cut_X7_foresee K (n + 1) 94 L st S = (O_int (-1000004) 2) (nx cod_X7_foresee cut_X7_foresee K n) 94 L st S) ∧
  (∀ (K : Kt QT) (n : Nat) (L : xL) (st : List Value) (S : QT), nx cod_X7_foresee cut_X7_foresee K (n + 1) 96 L st S = (O_goto 100) (nx cod_X7_foresee cut_X7_foresee K n) 96 L st S) ∧
  (∀ (K : Kt QT) (n : Nat) (L : xL) (st : List Value) (S : QT), nx cod_X7_foresee cut_X7_foresee K (n + 1) 99 L st S = (O_iload 3 1) (nx cod_X7_foresee cut_X7_foresee K n) 99 L st S) ∧
  (∀ (K : Kt QT) (n : Nat) (L : xL) (st : List Value) (S : QT), nx cod_X7_foresee cut_X7_foresee K (n + 1) 100 L st S = (O_iret) (nx cod_X7_foresee cut_X7_foresee K n) 100 L st S) ∧
  (∀ (K : Kt QT) (n : Nat) (L : xL) (st : List Value) (S : QT), nx cod_X7_foresee cut_X7_foresee K (n + 1) 100000 L st S = K 100000 L st S) := by
  repeat' apply And.intro
  all_goals (intros; rfl)
set_option maxRecDepth 100000 in
theorem mk_X7_foresee {P P' : QT} {r : Option Value} {p0 : Int32} {p1 : Int32} (body : ∀ E : En, CodOk E aW cod_X7_foresee → Gd E aW 100000 [] r.toList P' → Gd E aW 0 [some (.ref 0), some (.int p0), some (.int p1), none] [] P) : Con yX7_foresee cX7_foresee 4 (some .int) 8 aW [.ref 0, .int p0, .int p1] P r P' :=
  Con.of (by decide) ((aW_len P').trans (aW_len P).symm) rfl (Nat.le_of_ble_eq_true rfl) (fun E F G hr => body E (okc_X7_foresee F G) hr)
set_option maxRecDepth 10000 in
theorem con_X7_foresee (S : ST) (M : MT) (fl : Bool) (m : Int32) (w : Int32) (hp : S.inv 40000 ∧ fl = false) : Con yX7_foresee cX7_foresee 4 (some .int) 8 aW [.ref 0, .int m, .int w] (S, M, fl) (some (.int (if okFore m w = false then -1000001 else (S.mins m.toNatClampNeg).seen w))) ((if okFore m w = true then (S, (M.lay S).sSeen (sawN S M.seen m.toNatClampNeg), false) else (S, M, fl))) := by
  refine mk_X7_foresee (fun E C hr => ?_)
  obtain ⟨hi, rfl⟩ := hp
  have hi3 := ST.inv_le hi (m := 30000) (by omega)
  by_cases c : okFore m w = true
  · rw [if_neg (by rw [c]; decide), if_pos c] at hr
    have hc := c
    unfold okFore at hc
    simp only [Bool.and_eq_true] at hc
    obtain ⟨hc1, hc2⟩ := hc
    obtain ⟨hn1, hn2⟩ := inR_cl (b := 1440) hc1 (by omega)
    have hT : (S.mins m.toNatClampNeg).inv 1 := ST.mins_inv _ (ST.inv_le hi (by omega))
    have hlay : ∀ x, ∃ S0 : ST, true = true ∧ (∀ i, i < 170 → ((M.lay S).sSeen x).aside i = abs S0 i) ∧ S0 = S := fun x => ⟨S, rfl, lay_at M S, rfl⟩
    have h79 : ∀ v : Int32, (if w = 3 then (if v = -1 then -1000004 else v) else v) = (S.mins m.toNatClampNeg).seen w → Gd E aW 79 [some (.ref 0), some (.int m), some (.int w), none] [.int v] (S.mins m.toNatClampNeg, (M.lay S).sSeen (sawN S M.seen m.toNatClampNeg), false) := by
      intro v hv
      rw [← hv] at hr
      clear hi3 hi hn1 hn2 hT hc1 hc2 hlay
      refine nx1_ok C cut_X7_foresee 1000 ?_
      by_cases d1 : w = 3
      · by_cases d2 : v = -1
        · simp only [d1, d2, if_true] at hr
          (simp only [w_X7_foresee, ops_eq, xst_eq, call_eq, oK_eq, Option.toList_some, Option.toList_none, List.cons_append, List.nil_append, List.length_cons, List.length_nil, true_and, and_true, Nat.reduceAdd, aW_F, aW_A, aW_P, aW_w, abs_eq, O_asti_eq, v170, cl_eq, ST_id, MT_gs, ST_gs, PT_gs, ZT_gs, NT_gs, ET_gs, se_X7_in, sea_X7_layAside, se_X7_minutes, se_X7_running, sea_X7_takeBack, d1, d2, lay_seen])
          (repeat' (with_reducible first | apply And.intro | intro _)) <;> first | (with_reducible exact Nat.zero_le _) | contradiction | (refine ⟨S, lay_at M S, ?_⟩; ((repeat' (with_reducible first | apply And.intro | intro _)) <;> first | (with_reducible assumption) | (with_reducible exact Nat.zero_le _) | contradiction | (simp only [Option.toList_none, Option.toList_some] at hr; with_reducible assumption) | (simp_all; done) | assumption))
        · simp only [d1, d2, if_true, if_false] at hr
          (simp only [w_X7_foresee, ops_eq, xst_eq, call_eq, oK_eq, Option.toList_some, Option.toList_none, List.cons_append, List.nil_append, List.length_cons, List.length_nil, true_and, and_true, Nat.reduceAdd, aW_F, aW_A, aW_P, aW_w, abs_eq, O_asti_eq, v170, cl_eq, ST_id, MT_gs, ST_gs, PT_gs, ZT_gs, NT_gs, ET_gs, se_X7_in, sea_X7_layAside, se_X7_minutes, se_X7_running, sea_X7_takeBack, d1, d2, lay_seen])
          (repeat' (with_reducible first | apply And.intro | intro _)) <;> first | (with_reducible exact Nat.zero_le _) | contradiction | (refine ⟨S, lay_at M S, ?_⟩; ((repeat' (with_reducible first | apply And.intro | intro _)) <;> first | (with_reducible assumption) | (with_reducible exact Nat.zero_le _) | contradiction | (simp only [Option.toList_none, Option.toList_some] at hr; with_reducible assumption) | (simp_all; done) | assumption))
      · simp only [d1, if_false] at hr
        (simp only [w_X7_foresee, ops_eq, xst_eq, call_eq, oK_eq, Option.toList_some, Option.toList_none, List.cons_append, List.nil_append, List.length_cons, List.length_nil, true_and, and_true, Nat.reduceAdd, aW_F, aW_A, aW_P, aW_w, abs_eq, O_asti_eq, v170, cl_eq, ST_id, MT_gs, ST_gs, PT_gs, ZT_gs, NT_gs, ET_gs, se_X7_in, sea_X7_layAside, se_X7_minutes, se_X7_running, sea_X7_takeBack, d1, lay_seen])
        (repeat' (with_reducible first | apply And.intro | intro _)) <;> first | (with_reducible exact Nat.zero_le _) | contradiction | (refine ⟨S, lay_at M S, ?_⟩; ((repeat' (with_reducible first | apply And.intro | intro _)) <;> first | (with_reducible assumption) | (with_reducible exact Nat.zero_le _) | contradiction | (simp only [Option.toList_none, Option.toList_some] at hr; with_reducible assumption) | (simp_all; done) | assumption))
    clear hr hlay
    have h36 : Gd E aW 36 [some (.ref 0), some (.int m), some (.int w), none] [] (S.mins m.toNatClampNeg, (M.lay S).sSeen (sawN S M.seen m.toNatClampNeg), false) := by
      have ho := hT.1.1
      clear hi3 hi hn1 hn2 hT hc1
      generalize S.mins m.toNatClampNeg = T at *
      rcases okF hc2 with rfl | rfl | rfl | rfl | rfl
      · have h79 := h79 T.pressure rfl
        (refine nx1_ok C cut_X7_foresee 1000 ?_; simp only [w_X7_foresee, ops_eq, xst_eq, call_eq, oK_eq, Option.toList_some, Option.toList_none, List.cons_append, List.nil_append, List.length_cons, List.length_nil, true_and, and_true, Nat.reduceAdd, aW_F, aW_A, aW_P, aW_w, abs_eq, O_asti_eq, v170, cl_eq, ST_id, MT_gs, ST_gs, PT_gs, ZT_gs, NT_gs, ET_gs, se_X7_in, sea_X7_layAside, se_X7_minutes, se_X7_running, sea_X7_takeBack, ho, lit_i])
        ((repeat' (with_reducible first | apply And.intro | intro _)) <;> first | (with_reducible assumption) | (with_reducible exact Nat.zero_le _) | contradiction | (simp only [Option.toList_none, Option.toList_some] at hr; with_reducible assumption) | (simp_all; done) | assumption)
      · have h79 := h79 T.level rfl
        (refine nx1_ok C cut_X7_foresee 1000 ?_; simp only [w_X7_foresee, ops_eq, xst_eq, call_eq, oK_eq, Option.toList_some, Option.toList_none, List.cons_append, List.nil_append, List.length_cons, List.length_nil, true_and, and_true, Nat.reduceAdd, aW_F, aW_A, aW_P, aW_w, abs_eq, O_asti_eq, v170, cl_eq, ST_id, MT_gs, ST_gs, PT_gs, ZT_gs, NT_gs, ET_gs, se_X7_in, sea_X7_layAside, se_X7_minutes, se_X7_running, sea_X7_takeBack, ho, lit_i])
        ((repeat' (with_reducible first | apply And.intro | intro _)) <;> first | (with_reducible assumption) | (with_reducible exact Nat.zero_le _) | contradiction | (simp only [Option.toList_none, Option.toList_some] at hr; with_reducible assumption) | (simp_all; done) | assumption)
      · have h79 := h79 T.P.running rfl
        (refine nx1_ok C cut_X7_foresee 1000 ?_; simp only [w_X7_foresee, ops_eq, xst_eq, call_eq, oK_eq, Option.toList_some, Option.toList_none, List.cons_append, List.nil_append, List.length_cons, List.length_nil, true_and, and_true, Nat.reduceAdd, aW_F, aW_A, aW_P, aW_w, abs_eq, O_asti_eq, v170, cl_eq, ST_id, MT_gs, ST_gs, PT_gs, ZT_gs, NT_gs, ET_gs, se_X7_in, sea_X7_layAside, se_X7_minutes, se_X7_running, sea_X7_takeBack, ho, lit_i])
        ((repeat' (with_reducible first | apply And.intro | intro _)) <;> first | (with_reducible assumption) | (with_reducible exact Nat.zero_le _) | contradiction | (simp only [Option.toList_none, Option.toList_some] at hr; with_reducible assumption) | (simp_all; done) | assumption)
      · have h79 := h79 T.P.vrb rfl
        (refine nx1_ok C cut_X7_foresee 1000 ?_; simp only [w_X7_foresee, ops_eq, xst_eq, call_eq, oK_eq, Option.toList_some, Option.toList_none, List.cons_append, List.nil_append, List.length_cons, List.length_nil, true_and, and_true, Nat.reduceAdd, aW_F, aW_A, aW_P, aW_w, abs_eq, O_asti_eq, v170, cl_eq, ST_id, MT_gs, ST_gs, PT_gs, ZT_gs, NT_gs, ET_gs, se_X7_in, sea_X7_layAside, se_X7_minutes, se_X7_running, sea_X7_takeBack, ho, lit_i])
        ((repeat' (with_reducible first | apply And.intro | intro _)) <;> first | (with_reducible assumption) | (with_reducible exact Nat.zero_le _) | contradiction | (simp only [Option.toList_none, Option.toList_some] at hr; with_reducible assumption) | (simp_all; done) | assumption)
      · have h79 := h79 T.supply rfl
        (refine nx1_ok C cut_X7_foresee 1000 ?_; simp only [w_X7_foresee, ops_eq, xst_eq, call_eq, oK_eq, Option.toList_some, Option.toList_none, List.cons_append, List.nil_append, List.length_cons, List.length_nil, true_and, and_true, Nat.reduceAdd, aW_F, aW_A, aW_P, aW_w, abs_eq, O_asti_eq, v170, cl_eq, ST_id, MT_gs, ST_gs, PT_gs, ZT_gs, NT_gs, ET_gs, se_X7_in, sea_X7_layAside, se_X7_minutes, se_X7_running, sea_X7_takeBack, ho, lit_i])
        ((repeat' (with_reducible first | apply And.intro | intro _)) <;> first | (with_reducible assumption) | (with_reducible exact Nat.zero_le _) | contradiction | (simp only [Option.toList_none, Option.toList_some] at hr; with_reducible assumption) | (simp_all; done) | assumption)
    have hls : (M.lay S).seen = M.seen := rfl
    clear h79 hT hi
    (refine nx_ok C (cuts := cut_X7_foresee) 1000 _ _ _ _ ?_; simp only [w_X7_foresee, ops_eq, xst_eq, call_eq, oK_eq, Option.toList_some, Option.toList_none, List.cons_append, List.nil_append, List.length_cons, List.length_nil, true_and, and_true, Nat.reduceAdd, aW_F, aW_A, aW_P, aW_w, abs_eq, O_asti_eq, v170, cl_eq, ST_id, MT_gs, ST_gs, PT_gs, ZT_gs, NT_gs, ET_gs, se_X7_in, sea_X7_layAside, se_X7_minutes, se_X7_running, sea_X7_takeBack, bI_eq, inL_lit, hc1, hc2, hi3, hn1.symm, hn2, hls])
    ((repeat' (with_reducible first | apply And.intro | intro _)) <;> first | (with_reducible assumption) | (with_reducible exact Nat.zero_le _) | contradiction | (simp only [Option.toList_none, Option.toList_some] at hr; with_reducible assumption) | (simp_all; done) | assumption)
  · have c2 : okFore m w = false := by cases z : okFore m w <;> simp_all
    rw [if_pos c2, if_neg c] at hr
    unfold okFore at c2
    by_cases d1 : inR m 1 1440 = true
    · have d2 : inR w 0 4 = false := by rw [d1, Bool.true_and] at c2; exact c2
      (refine nx_ok C (cuts := cut_X7_foresee) 1000 _ _ _ _ ?_; simp only [w_X7_foresee, ops_eq, xst_eq, call_eq, oK_eq, Option.toList_some, Option.toList_none, List.cons_append, List.nil_append, List.length_cons, List.length_nil, true_and, and_true, Nat.reduceAdd, aW_F, aW_A, aW_P, aW_w, abs_eq, O_asti_eq, v170, cl_eq, ST_id, MT_gs, ST_gs, PT_gs, ZT_gs, NT_gs, ET_gs, se_X7_in, sea_X7_layAside, se_X7_minutes, se_X7_running, sea_X7_takeBack, bI_eq, inL_lit, d1, d2])
      ((repeat' (with_reducible first | apply And.intro | intro _)) <;> first | (with_reducible assumption) | (with_reducible exact Nat.zero_le _) | exact absurd trivial ‹¬True› | (simp_all [ST_id, MT_gs, ST_gs, PT_gs, ZT_gs, NT_gs, ET_gs]; done) | assumption | simp_all)
    · have d2 : inR m 1 1440 = false := by cases z : inR m 1 1440 <;> simp_all
      (refine nx_ok C (cuts := cut_X7_foresee) 1000 _ _ _ _ ?_; simp only [w_X7_foresee, ops_eq, xst_eq, call_eq, oK_eq, Option.toList_some, Option.toList_none, List.cons_append, List.nil_append, List.length_cons, List.length_nil, true_and, and_true, Nat.reduceAdd, aW_F, aW_A, aW_P, aW_w, abs_eq, O_asti_eq, v170, cl_eq, ST_id, MT_gs, ST_gs, PT_gs, ZT_gs, NT_gs, ET_gs, se_X7_in, sea_X7_layAside, se_X7_minutes, se_X7_running, sea_X7_takeBack, bI_eq, inL_lit, d2])
      ((repeat' (with_reducible first | apply And.intro | intro _)) <;> first | (with_reducible assumption) | (with_reducible exact Nat.zero_le _) | exact absurd trivial ‹¬True› | (simp_all [ST_id, MT_gs, ST_gs, PT_gs, ZT_gs, NT_gs, ET_gs]; done) | assumption | simp_all)
def spc_X7_foresee (S : ST) (M : MT) (fl : Bool) (m : Int32) (w : Int32) (K : Option Value → QT → Prop) : Prop := (S.inv 40000 ∧ fl = false) ∧ K (some (.int (if okFore m w = false then -1000001 else (S.mins m.toNatClampNeg).seen w))) ((if okFore m w = true then (S, (M.lay S).sSeen (sawN S M.seen m.toNatClampNeg), false) else (S, M, fl)))
def sp_X7_foresee : Sp QT := fun av q K => match av with
  | [.ref 0, .int m, .int w] => spc_X7_foresee q.1 q.2.1 q.2.2 m w K
  | _ => False
theorem se_X7_foresee (S : ST) (M : MT) (fl : Bool) (m : Int32) (w : Int32) (K : Option Value → QT → Prop) : sp_X7_foresee [.ref 0, .int m, .int w] (S, M, fl) K = ((S.inv 40000 ∧ fl = false) ∧ K (some (.int (if okFore m w = false then -1000001 else (S.mins m.toNatClampNeg).seen w))) ((if okFore m w = true then (S, (M.lay S).sSeen (sawN S M.seen m.toNatClampNeg), false) else (S, M, fl)))) := rfl
theorem spok_X7_foresee : SpOk yX7_foresee cX7_foresee 4 (some .int) 8 aW sp_X7_foresee := by
  intro av q K h
  unfold sp_X7_foresee at h
  split at h
  · rename_i m w; refine ⟨_, _, ?_, con_X7_foresee q.1 q.2.1 q.2.2 m w h.1, h.2⟩; trivial
  · exact h.elim
