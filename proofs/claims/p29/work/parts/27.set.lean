/-! ===== arrays that no world has: statics ===== -/
def Zar (k n : Nat) (f : Nat → Int32) (E : En) : Prop := match E with
  | (p, l, e, R, s, m, args, below, meth, c, Qc, Q, cs, A, nL, D, ad) => ¬ A (ad k) ∧ ad k < s.heap.size ∧ va_X (ad k) n f s s.heap
def Zst (k : Nat) (nm : String) (E : En) : Prop := match E with
  | (p, l, e, R, s, m, args, below, meth, c, Qc, Q, cs, A, nL, D, ad) => va_Z RX6 nm "[I" (.ref (ad k)) A s s.heap
def O_gsta {σ : Type} (k : Nat) : Op σ := fun K pc L st S => K (pc + 3) L (.ref k :: st) S
def O_gald {σ : Type} (k n : Nat) (f : Nat → Int32) : Op σ := fun K pc L st S => match st with
  | .int i :: .ref k' :: r => k' = k ∧ vp_in i n ∧ K (pc + 1) L (.int (f i.toNatClampNeg) :: r) S
  | _ => False
theorem O_g_eq : (∀ {σ : Type} (K : Kt σ) (pc : Nat) (S : σ) (L : xL) (r : List Value) (k : Nat), O_gsta k K pc L r S = K (pc + 3) L (.ref k :: r) S) ∧ (∀ {σ : Type} (K : Kt σ) (pc : Nat) (S : σ) (L : xL) (r : List Value) (k k' n : Nat) (f : Nat → Int32) (i : Int32), O_gald k n f K pc L (.int i :: .ref k' :: r) S = (k' = k ∧ vp_in i n ∧ K (pc + 1) L (.int (f i.toNatClampNeg) :: r) S)) := ⟨fun _ _ _ _ _ _ => rfl, fun _ _ _ _ _ _ _ _ _ _ => rfl⟩
/-- a plain array of ints at z, but for its cell's monitor: no world has it -/
def xSt (D : xD) (z n : Nat) (f : Nat → Int32) (U : State) : Prop := ∃ scr : Cell, U.heap[z]? = some scr ∧ scr.cls = D.2.2 0 ∧ (∀ k, scr.vm ≠ .statics k) ∧ scr.vm ≠ .unknown ∧ scr.slots = (vp_cell (D.2.2 0) (n, .inl f)).slots
theorem xSt.lt {D : xD} {z n : Nat} {f : Nat → Int32} {U : State} (h : xSt D z n f U) : z < U.heap.size := by
  obtain ⟨scr, h1, -⟩ := h
  exact (Array.getElem?_eq_some_iff.mp h1).1
theorem xSt.X {D : xD} {z n : Nat} {f : Nat → Int32} {U : State} (hK : xKn D U) (h : xSt D z n f U) : va_X z n f U U.heap := by
  obtain ⟨scr, h1, h2, h3, h4, h5⟩ := h
  obtain ⟨-, kA, hkA, comp, hk⟩ := (hK.1.2 0 (D.2.2 0, .int) rfl).1 0 (fun _ => .null)
  refine ⟨scr, h1, ⟨h3, kA, by rw [h2]; exact hkA, comp, hk⟩, h4, ?_, fun j hj => ?_⟩
  · rw [h5]; exact arrV_size _ _ _
  · rw [h5]; exact arrV_read _ _ hj
theorem xSt.old {D : xD} {z n : Nat} {f : Nat → Int32} {s U : State} {A : Nat → Prop} {H : Heap} {locs : List Loc} (hS : va_S A s.heap H locs) (hA : ¬ A z) (hU : U.heap = H) (h : xSt D z n f s) : xSt D z n f U := by
  obtain ⟨scr, h1, h2⟩ := h
  exact ⟨scr, by rw [hU, hS.2.1 z (Array.getElem?_eq_some_iff.mp h1).1 hA]; exact h1, h2⟩
theorem va_at_old {D : xD} {A : Nat → Prop} {H0 H : Heap} {locs : List Loc} {q : Nat × va_E} (hS : va_S A H0 H locs) (hA : ¬ A q.1) (h : va_at (D.1, D.2.1) classes q H0) : va_at (D.1, D.2.1) classes q H := h.kept (hS.2.1 q.1 h.lt hA)
section
variable {σ : Type} {E : En} {own : String} {cc : ByteArray} {maxL d pc : Nat} {toW : σ → xW}
theorem ok_gsta (F : Fx E own cc maxL d) {k ix : Nat} {nm : String} (hz : Zst k nm E) (hw : wsHas [.fieldLink own ix RX6 nm "[I"] = true) (hd : decode cc pc = .ok (.getstatic ix, 3)) (hpc : pc + 3 < 100000) : OpOk E toW pc (O_gsta (σ := σ) k) := by
  refine OpOk.mk (by omega) fun hE K L st S ho hk H locs hP hap hS hL hn ls hl => ?_
  subst hE
  exact va_gets F.1 F.2.1 hz hS F.2.2.2.2.1 (F.2.2.2.2.2.1 _ (wsHas_mem hw (by simp))) (fun _ h => h) hd ((hk _ _ _ _ ho).use hpc hP hap hS hL hn hl)
theorem ok_gald (F : Fx E own cc maxL d) {k n : Nat} {f : Nat → Int32} (hz : Zar k n f E) (hd : decode cc pc = .ok (.iaload, 1)) (hpc : pc + 1 < 100000) : OpOk E toW pc (O_gald (σ := σ) k n f) := by
  refine OpOk.mk (by omega) fun {p l e R s m args below meth c Qc Q cs A nL D ad} hE K L st S ho hk H locs hP hap hS hL hn ls hl => ?_
  subst hE
  unfold O_gald at ho
  split at ho
  · rename_i i k' r
    obtain ⟨rfl, h2, h3⟩ := ho
    exact va_sld F.1 F.2.1 hz.2.2 hz.2.1 hz.1 hS h2 hd ((hk _ _ _ _ h3).use hpc hP hap hS hL hn hl)
  · exact ho.elim
end
def ZSd (D : xD) (ad : Nat → Nat) (A : Nat → Prop) (U : State) : Prop := va_Z RX6 "LEAST_SETTINGS" "[I" (.ref (ad 1000)) A U U.heap ∧ va_Z RX6 "MOST_SETTINGS" "[I" (.ref (ad 1001)) A U U.heap ∧ (¬ A (ad 1000) ∧ ad 1000 < U.heap.size ∧ va_X (ad 1000) 19 leastS U U.heap) ∧ (¬ A (ad 1001) ∧ ad 1001 < U.heap.size ∧ va_X (ad 1001) 19 mostS U U.heap)
def ZS (E : En) : Prop := match E with
  | (p, l, e, R, s, m, args, below, meth, c, Qc, Q, cs, A, nL, D, ad) => ZSd D ad A s
/-- a contract of a method that reads the statics -/
def ConS {τ : Type} (y : MethodName) (cc : ByteArray) (maxL : Nat) (ret : Option FieldType) (d : Nat) (toW : τ → xW) (av : List Value) (P : τ) (r : Option Value) (P' : τ) : Prop :=
  (toW P').length = (toW P).length ∧ ∀ (l : Launch) (D : xD) (ad : Nat → Nat) (sz : Nat), Met l y (.code y cc maxL ret :: WS) (rmd d) (va_Pc (av.map (xv ad)) (fun U => xPre D ad sz (toW P) U ∧ ZSd D ad (va_A (xw D ad (toW P)) sz) U)) (xQ D ad (toW P) (toW P') sz r) 0 0 (va_A (xw D ad (toW P)) sz)
theorem ConS.of {τ : Type} {y : MethodName} {cc : ByteArray} {maxL d : Nat} {ret : Option FieldType} {toW : τ → xW} {av : List Value} {P P' : τ} {r : Option Value}
    (hy : plainName y.cls = true) (hlen : (toW P').length = (toW P).length) (hpl : av.all xplain = true) (hm : (xargs av).length ≤ maxL) 
    (body : ∀ E : En, Fx E y.cls cc maxL d → Fr E ret → ZS E → Gd E toW 100000 [] r.toList P' → Gd E toW 0 (xarg av maxL) [] P) : ConS y cc maxL ret d toW av P r P' := by
  refine ⟨hlen, fun l D ad sz => ?_⟩
  have hpl' : ∀ v ∈ av, xplain v = true := fun v hv => List.all_eq_true.mp hpl v hv
  refine Met.ofW (cc := cc) (maxL := maxL) (ret := ret) hy rfl ?_
  intro p e s m args below meth c s₁ B hml hv
  obtain ⟨rfl, ⟨hsz, hP, hK, hap⟩, hZ⟩ := hv
  have hts := atoms_spec (ws := .code y cc maxL ret :: WS) B.pre
  have hown : s.vm.findClass y.cls = some m.cls := findClass_of_methodNamed B.named
  subst hsz
  have hF : Fx (p, l, e, (headSpec (.code y cc maxL ret :: WS) (rmd d)).room, s, m, (av.map (xv ad)).toArray, below, meth, c, xQ D ad (toW P) (toW P') s.heap.size r, MQ below (xQ D ad (toW P) (toW P') s.heap.size r) (av.map (xv ad)).toArray s 0 0 (va_A (xw D ad (toW P)) s.heap.size), (0, 0), va_A (xw D ad (toW P)) s.heap.size, maxL, D, ad) y.cls cc maxL d :=
    ⟨B.exec, B.bytes, hml, rfl, hown, fun w hw => hts w (List.mem_cons_of_mem _ hw), B.notSynchronized, hK, fun q hq => Or.inr hq, Nat.zero_le _, Nat.zero_le _, Nat.le_refl _, Nat.le_refl _⟩
  have hxap : xap (va_A (xw D ad (toW P)) s.heap.size) ad (toW P).length := ⟨hap, fun i hi => by
    obtain ⟨c, hc⟩ : ∃ c, (toW P)[i]? = some c := ⟨_, List.getElem?_eq_getElem hi⟩
    exact Or.inl ⟨i, xc D ad c, by rw [xw_get, hc]; rfl⟩⟩
  have h := body _ hF ⟨B.returns, rfl⟩ hZ (fun H locs hP' _ hS => ⟨fun _ t ht _ => ⟨by cases r <;> rfl, by rw [ht]; exact hP', hS.F ht⟩, fun q => absurd rfl q⟩)
  have hl := lv_entry (av.map (xv ad)) (n := maxL) (by rw [xargs_len ad av hpl']; exact hm)
  rw [lg_entry_eq]
  refine (h s.heap [] hP hxap va_S.rf).2 (by decide) (by simp [xarg]; omega) (xno_args av hpl' _) _ ?_
  rw [show lvp ad 0 (xarg av maxL) = lv_args 0 (av.map (xv ad)) by rw [xarg, lvp_app, lvp_none, List.append_nil, lvp_args ad av 0 hpl']]
  exact hl
def cod_X6_set : List (Nat × Op FT) := [(0, O_iload 1 1), (1, O_int 0 1), (2, O_int 18 2), (4, O_callS 3 sp_X6_within), (7, O_if_eq 27), (10, O_iload 2 1), (11, O_gsta 1000), (14, O_iload 1 1), (15, O_gald 1000 19 leastS), (16, O_gsta 1001), (19, O_iload 1 1), (20, O_gald 1001 19 mostS), (21, O_callS 3 sp_X6_within), (24, O_if_ne 30), (27, O_int (-1000001) 2), (29, O_iret), (30, O_aload 0 1), (31, O_callV 0 0 (fun S => S) (fun _ S' => S') sp_X6_remember), (34, O_aload 0 1), (35, O_getf fpW 6 0), (38, O_getf fpW 4 0), (41, O_iload 1 1), (42, O_ald fpW 0), (43, O_istore 3 1), (44, O_aload 0 1), (45, O_getf fpW 6 0), (48, O_getf fpW 4 0), (51, O_iload 1 1), (52, O_iload 2 1), (53, O_ast fpW 0 fpW_sa), (54, O_iload 3 1), (55, O_iret)]
abbrev cut_X6_set : List Nat := []
set_option maxRecDepth 100000 in
theorem okc_X6_set {E : En} (F : Fx E RX6 cX6_set 4 4) (G : Fr E (some .int)) (Z : ZS E) : CodOk E fpW cod_X6_set := by
  have Z : Zst 1000 "LEAST_SETTINGS" E ∧ Zst 1001 "MOST_SETTINGS" E ∧ Zar 1000 19 leastS E ∧ Zar 1001 19 mostS E := Z
  unfold CodOk cod_X6_set
  refine List.forall_mem_cons.mpr ⟨ok_iload_n F dX6_set_0 rfl (by decide), ?_⟩
  refine List.forall_mem_cons.mpr ⟨ok_iconst F dX6_set_1 (by decide) (by decide), ?_⟩
  refine List.forall_mem_cons.mpr ⟨ok_bipush F dX6_set_2 (by decide) (by decide), ?_⟩
  refine List.forall_mem_cons.mpr ⟨ok_callS F spok_X6_within (by decide +kernel) rfl (by decide) dX6_set_4 (by decide), ?_⟩
  refine List.forall_mem_cons.mpr ⟨ok_if_eq F dX6_set_7 (by decide) (by decide) (by decide), ?_⟩
  refine List.forall_mem_cons.mpr ⟨ok_iload_n F dX6_set_10 rfl (by decide), ?_⟩
  refine List.forall_mem_cons.mpr ⟨ok_gsta F Z.1 (by decide +kernel) dX6_set_11 (by decide), ?_⟩
  refine List.forall_mem_cons.mpr ⟨ok_iload_n F dX6_set_14 rfl (by decide), ?_⟩
  refine List.forall_mem_cons.mpr ⟨ok_gald F Z.2.2.1 dX6_set_15 (by decide), ?_⟩
  refine List.forall_mem_cons.mpr ⟨ok_gsta F Z.2.1 (by decide +kernel) dX6_set_16 (by decide), ?_⟩
  refine List.forall_mem_cons.mpr ⟨ok_iload_n F dX6_set_19 rfl (by decide), ?_⟩
  refine List.forall_mem_cons.mpr ⟨ok_gald F Z.2.2.2 dX6_set_20 (by decide), ?_⟩
  refine List.forall_mem_cons.mpr ⟨ok_callS F spok_X6_within (by decide +kernel) rfl (by decide) dX6_set_21 (by decide), ?_⟩
  refine List.forall_mem_cons.mpr ⟨ok_if_ne F dX6_set_24 (by decide) (by decide) (by decide), ?_⟩
  refine List.forall_mem_cons.mpr ⟨ok_ldc F (ix := 41) (wsHas_mem (l := [Jvm.Cond.constant RX6 41 (-1000001)]) (by decide +kernel) (by simp)) dX6_set_27 (by decide), ?_⟩
  refine List.forall_mem_cons.mpr ⟨ok_iret F G dX6_set_29 (by decide), ?_⟩
  refine List.forall_mem_cons.mpr ⟨ok_aload_n F dX6_set_30 rfl (by decide), ?_⟩
  refine List.forall_mem_cons.mpr ⟨ok_callV F spok_X6_remember (ln_id fpW) rcv_fpW (by decide +kernel) (by decide) dX6_set_31 (by decide), ?_⟩
  refine List.forall_mem_cons.mpr ⟨ok_aload_n F dX6_set_34 rfl (by decide), ?_⟩
  refine List.forall_mem_cons.mpr ⟨ok_getf F flX6_10 dX6_set_35 (by decide), ?_⟩
  refine List.forall_mem_cons.mpr ⟨ok_getf F flX6_45 dX6_set_38 (by decide), ?_⟩
  refine List.forall_mem_cons.mpr ⟨ok_iload_n F dX6_set_41 rfl (by decide), ?_⟩
  refine List.forall_mem_cons.mpr ⟨ok_iald F dX6_set_42 (by decide), ?_⟩
  refine List.forall_mem_cons.mpr ⟨ok_istore_n F dX6_set_43 rfl (by decide) (by decide), ?_⟩
  refine List.forall_mem_cons.mpr ⟨ok_aload_n F dX6_set_44 rfl (by decide), ?_⟩
  refine List.forall_mem_cons.mpr ⟨ok_getf F flX6_10 dX6_set_45 (by decide), ?_⟩
  refine List.forall_mem_cons.mpr ⟨ok_getf F flX6_45 dX6_set_48 (by decide), ?_⟩
  refine List.forall_mem_cons.mpr ⟨ok_iload_n F dX6_set_51 rfl (by decide), ?_⟩
  refine List.forall_mem_cons.mpr ⟨ok_iload_n F dX6_set_52 rfl (by decide), ?_⟩
  refine List.forall_mem_cons.mpr ⟨ok_iast F fpW_sar dX6_set_53 (by decide), ?_⟩
  refine List.forall_mem_cons.mpr ⟨ok_iload_n F dX6_set_54 rfl (by decide), ?_⟩
  refine List.forall_mem_cons.mpr ⟨ok_iret F G dX6_set_55 (by decide), ?_⟩
  exact fun _ h => absurd h List.not_mem_nil
set_option maxRecDepth 100000 in
theorem w_X6_set : (∀ (K : Kt FT) (n : Nat) (L : xL) (st : List Value) (S : FT), nx cod_X6_set cut_X6_set K (n + 1) 0 L st S = (O_iload 1 1) (nx cod_X6_set cut_X6_set K n) 0 L st S) ∧
  (∀ (K : Kt FT) (n : Nat) (L : xL) (st : List Value) (S : FT), nx cod_X6_set cut_X6_set K (n + 1) 1 L st S = (O_int 0 1) (nx cod_X6_set cut_X6_set K n) 1 L st S) ∧
  (∀ (K : Kt FT) (n : Nat) (L : xL) (st : List Value) (S : FT), nx cod_X6_set cut_X6_set K (n + 1) 2 L st S = (O_int 18 2) (nx cod_X6_set cut_X6_set K n) 2 L st S) ∧
  (∀ (K : Kt FT) (n : Nat) (L : xL) (st : List Value) (S : FT), nx cod_X6_set cut_X6_set K (n + 1) 4 L st S = (O_callS 3 sp_X6_within) (nx cod_X6_set cut_X6_set K n) 4 L st S) ∧
  (∀ (K : Kt FT) (n : Nat) (L : xL) (st : List Value) (S : FT), nx cod_X6_set cut_X6_set K (n + 1) 7 L st S = (O_if_eq 27) (nx cod_X6_set cut_X6_set K n) 7 L st S) ∧
  (∀ (K : Kt FT) (n : Nat) (L : xL) (st : List Value) (S : FT), nx cod_X6_set cut_X6_set K (n + 1) 10 L st S = (O_iload 2 1) (nx cod_X6_set cut_X6_set K n) 10 L st S) ∧
  (∀ (K : Kt FT) (n : Nat) (L : xL) (st : List Value) (S : FT), nx cod_X6_set cut_X6_set K (n + 1) 11 L st S = (O_gsta 1000) (nx cod_X6_set cut_X6_set K n) 11 L st S) ∧
  (∀ (K : Kt FT) (n : Nat) (L : xL) (st : List Value) (S : FT), nx cod_X6_set cut_X6_set K (n + 1) 14 L st S = (O_iload 1 1) (nx cod_X6_set cut_X6_set K n) 14 L st S) ∧
  (∀ (K : Kt FT) (n : Nat) (L : xL) (st : List Value) (S : FT), nx cod_X6_set cut_X6_set K (n + 1) 15 L st S = (O_gald 1000 19 leastS) (nx cod_X6_set cut_X6_set K n) 15 L st S) ∧
  (∀ (K : Kt FT) (n : Nat) (L : xL) (st : List Value) (S : FT), nx cod_X6_set cut_X6_set K (n + 1) 16 L st S = (O_gsta 1001) (nx cod_X6_set cut_X6_set K n) 16 L st S) ∧
  (∀ (K : Kt FT) (n : Nat) (L : xL) (st : List Value) (S : FT), nx cod_X6_set cut_X6_set K (n + 1) 19 L st S = (O_iload 1 1) (nx cod_X6_set cut_X6_set K n) 19 L st S) ∧
  (∀ (K : Kt FT) (n : Nat) (L : xL) (st : List Value) (S : FT), nx cod_X6_set cut_X6_set K (n + 1) 20 L st S = (O_gald 1001 19 mostS) (nx cod_X6_set cut_X6_set K n) 20 L st S) ∧
  (∀ (K : Kt FT) (n : Nat) (L : xL) (st : List Value) (S : FT), nx cod_X6_set cut_X6_set K (n + 1) 21 L st S = (O_callS 3 sp_X6_within) (nx cod_X6_set cut_X6_set K n) 21 L st S) ∧
  (∀ (K : Kt FT) (n : Nat) (L : xL) (st : List Value) (S : FT), nx cod_X6_set cut_X6_set K (n + 1) 24 L st S = (O_if_ne 30) (nx cod_X6_set cut_X6_set K n) 24 L st S) ∧
  (∀ (K : Kt FT) (n : Nat) (L : xL) (st : List Value) (S : FT), nx cod_X6_set cut_X6_set K (n + 1) 27 L st S = (O_int (-1000001) 2) (nx cod_X6_set cut_X6_set K n) 27 L st S) ∧
  (∀ (K : Kt FT) (n : Nat) (L : xL) (st : List Value) (S : FT), nx cod_X6_set cut_X6_set K (n + 1) 29 L st S = (O_iret) (nx cod_X6_set cut_X6_set K n) 29 L st S) ∧
  (∀ (K : Kt FT) (n : Nat) (L : xL) (st : List Value) (S : FT), nx cod_X6_set cut_X6_set K (n + 1) 30 L st S = (O_aload 0 1) (nx cod_X6_set cut_X6_set K n) 30 L st S) ∧
  (∀ (K : Kt FT) (n : Nat) (L : xL) (st : List Value) (S : FT), nx cod_X6_set cut_X6_set K (n + 1) 31 L st S = (O_callV 0 0 (fun S => S) (fun _ S' => S') sp_X6_remember) (nx cod_X6_set cut_X6_set K n) 31 L st S) ∧
  (∀ (K : Kt FT) (n : Nat) (L : xL) (st : List Value) (S : FT), nx cod_X6_set cut_X6_set K (n + 1) 34 L st S = (O_aload 0 1) (nx cod_X6_set cut_X6_set K n) 34 L st S) ∧
  (∀ (K : Kt FT) (n : Nat) (L : xL) (st : List Value) (S : FT), nx cod_X6_set cut_X6_set K (n + 1) 35 L st S = (O_getf fpW 6 0) (nx cod_X6_set cut_X6_set K n) 35 L st S) ∧
  (∀ (K : Kt FT) (n : Nat) (L : xL) (st : List Value) (S : FT), nx cod_X6_set cut_X6_set K (n + 1) 38 L st S = (O_getf fpW 4 0) (nx cod_X6_set cut_X6_set K n) 38 L st S) ∧
  (∀ (K : Kt FT) (n : Nat) (L : xL) (st : List Value) (S : FT), nx cod_X6_set cut_X6_set K (n + 1) 41 L st S = (O_iload 1 1) (nx cod_X6_set cut_X6_set K n) 41 L st S) ∧
  (∀ (K : Kt FT) (n : Nat) (L : xL) (st : List Value) (S : FT), nx cod_X6_set cut_X6_set K (n + 1) 42 L st S = (O_ald fpW 0) (nx cod_X6_set cut_X6_set K n) 42 L st S) ∧
  (∀ (K : Kt FT) (n : Nat) (L : xL) (st : List Value) (S : FT), nx cod_X6_set cut_X6_set K (n + 1) 43 L st S = (O_istore 3 1) (nx cod_X6_set cut_X6_set K n) 43 L st S) ∧
  (∀ (K : Kt FT) (n : Nat) (L : xL) (st : List Value) (S : FT), nx cod_X6_set cut_X6_set K (n + 1) 44 L st S = (O_aload 0 1) (nx cod_X6_set cut_X6_set K n) 44 L st S) ∧
  (∀ (K : Kt FT) (n : Nat) (L : xL) (st : List Value) (S : FT), nx cod_X6_set cut_X6_set K (n + 1) 45 L st S = (O_getf fpW 6 0) (nx cod_X6_set cut_X6_set K n) 45 L st S) ∧
  (∀ (K : Kt FT) (n : Nat) (L : xL) (st : List Value) (S : FT), nx cod_X6_set cut_X6_set K (n + 1) 48 L st S = (O_getf fpW 4 0) (nx cod_X6_set cut_X6_set K n) 48 L st S) ∧
  (∀ (K : Kt FT) (n : Nat) (L : xL) (st : List Value) (S : FT), nx cod_X6_set cut_X6_set K (n + 1) 51 L st S = (O_iload 1 1) (nx cod_X6_set cut_X6_set K n) 51 L st S) ∧
  (∀ (K : Kt FT) (n : Nat) (L : xL) (st : List Value) (S : FT), nx cod_X6_set cut_X6_set K (n + 1) 52 L st S = (O_iload 2 1) (nx cod_X6_set cut_X6_set K n) 52 L st S) ∧
  (∀ (K : Kt FT) (n : Nat) (L : xL) (st : List Value) (S : FT), nx cod_X6_set cut_X6_set K (n + 1) 53 L st S = (O_ast fpW 0 fpW_sa) (nx cod_X6_set cut_X6_set K n) 53 L st S) ∧
  (∀ (K : Kt FT) (n : Nat) (L : xL) (st : List Value) (S : FT), nx cod_X6_set cut_X6_set K (n + 1) 54 L st S = (O_iload 3 1) (nx cod_X6_set cut_X6_set K n) 54 L st S) ∧
  (∀ (K : Kt FT) (n : Nat) (L : xL) (st : List Value) (S : FT), nx cod_X6_set cut_X6_set K (n + 1) 55 L st S = (O_iret) (nx cod_X6_set cut_X6_set K n) 55 L st S) ∧
  (∀ (K : Kt FT) (n : Nat) (L : xL) (st : List Value) (S : FT), nx cod_X6_set cut_X6_set K (n + 1) 100000 L st S = K 100000 L st S) := by
  repeat' apply And.intro
  all_goals (intros; rfl)
set_option maxRecDepth 100000 in
theorem mk_X6_set {P P' : FT} {r : Option Value} {p0 : Int32} {p1 : Int32} (body : ∀ E : En, CodOk E fpW cod_X6_set → Gd E fpW 100000 [] r.toList P' → Gd E fpW 0 [some (.ref 0), some (.int p0), some (.int p1), none] [] P) : ConS yX6_set cX6_set 4 (some .int) 4 fpW [.ref 0, .int p0, .int p1] P r P' :=
  ConS.of (by decide) rfl rfl (Nat.le_of_ble_eq_true rfl) (fun E F G Z hr => body E (okc_X6_set F G Z) hr)
set_option maxRecDepth 10000 in
theorem con_X6_set (S : FT) (w : Int32) (v : Int32) (hp : S.good) : ConS yX6_set cX6_set 4 (some .int) 4 fpW [.ref 0, .int w, .int v] S (some (.int (if isSet w v = false then -1000001 else S.now.settings w.toNatClampNeg))) (if isSet w v = true then S.remember.sNow (S.now.sSettings (upd S.now.settings w.toNatClampNeg v)) else S) := by
  refine mk_X6_set (fun E C hr => ?_)
  have h1 := hp.1
  have h2 := hp.2.1.2
  clear hp
  by_cases c1 : inR w 0 18 = true
  · have hv : vp_in w 19 := by
      obtain ⟨n, hn, rfl, _⟩ := inR_nI (b := 18) c1 (by omega)
      exact vp_in_nI (by omega) (by omega)
    have e : isSet w v = inR v (leastS w.toNatClampNeg) (mostS w.toNatClampNeg) := by unfold isSet; rw [c1, Bool.true_and]
    rw [e] at hr
    clear e
    cases c2 : inR v (leastS w.toNatClampNeg) (mostS w.toNatClampNeg) with
    | true =>
      rw [c2, if_neg (by decide), if_pos rfl] at hr
      (refine nx_ok C (cuts := cut_X6_set) 1000 _ _ _ _ ?_; simp only [w_X6_set, ops_eq, xst_eq, call_eq, oK_eq, Option.toList_some, Option.toList_none, List.cons_append, List.nil_append, List.length_cons, List.length_nil, true_and, and_true, Nat.reduceAdd, fpW_F, fpW_A, fpW_S, fpW_P, FT_id, ST_id, FT_gs, ST_gs, PT_gs, ZT_gs, NT_gs, ET_gs, OT_gs, se_X6_within, se_X6_remember, O_g_eq, bI_eq, rmb_eq, h1, h2, hv, c1, c2])
      ((repeat' (with_reducible first | apply And.intro | intro _)) <;> first | (with_reducible assumption) | (with_reducible exact Nat.zero_le _) | contradiction | (simp only [Option.toList_none, Option.toList_some] at hr; with_reducible assumption) | (simp_all; done) | assumption)
    | false =>
      rw [c2, if_pos rfl, if_neg (by decide)] at hr
      (refine nx_ok C (cuts := cut_X6_set) 1000 _ _ _ _ ?_; simp only [w_X6_set, ops_eq, xst_eq, call_eq, oK_eq, Option.toList_some, Option.toList_none, List.cons_append, List.nil_append, List.length_cons, List.length_nil, true_and, and_true, Nat.reduceAdd, fpW_F, fpW_A, fpW_S, fpW_P, FT_id, ST_id, FT_gs, ST_gs, PT_gs, ZT_gs, NT_gs, ET_gs, OT_gs, se_X6_within, se_X6_remember, O_g_eq, bI_eq, rmb_eq, h1, h2, hv, c1, c2])
      ((repeat' (with_reducible first | apply And.intro | intro _)) <;> first | (with_reducible assumption) | (with_reducible exact Nat.zero_le _) | contradiction | (simp only [Option.toList_none, Option.toList_some] at hr; with_reducible assumption) | (simp_all; done) | assumption)
  · have c2 := bnot c1
    have e : isSet w v = false := by unfold isSet; rw [c2]; rfl
    rw [e, if_pos rfl, if_neg (by decide)] at hr
    (refine nx_ok C (cuts := cut_X6_set) 1000 _ _ _ _ ?_; simp only [w_X6_set, ops_eq, xst_eq, call_eq, oK_eq, Option.toList_some, Option.toList_none, List.cons_append, List.nil_append, List.length_cons, List.length_nil, true_and, and_true, Nat.reduceAdd, fpW_F, fpW_A, fpW_S, fpW_P, FT_id, ST_id, FT_gs, ST_gs, PT_gs, ZT_gs, NT_gs, ET_gs, OT_gs, se_X6_within, se_X6_remember, O_g_eq, bI_eq, c2])
    ((repeat' (with_reducible first | apply And.intro | intro _)) <;> first | (with_reducible assumption) | (with_reducible exact Nat.zero_le _) | contradiction | (simp only [Option.toList_none, Option.toList_some] at hr; with_reducible assumption) | (simp_all; done) | assumption)
/-- set, of both -/
theorem tw_set {k : Nat} {F G : FT} (h : Tw (k + 1) F G) (w v : Int32) : ∃ (r : Int32) (F' G' : FT), ConS yX6_set cX6_set 4 (some .int) 4 fpW [.ref 0, .int w, .int v] F (some (.int r)) F' ∧ ConS yX6_set cX6_set 4 (some .int) 4 fpW [.ref 0, .int w, .int v] G (some (.int r)) G' ∧ Tw k F' G' := by
  have h1 := con_X6_set F w v h.1
  have h2 := con_X6_set G w v h.2.1
  obtain ⟨-, -, i, s, z, t, Y, e, hz, hY⟩ := id h
  rw [e] at h2
  by_cases c : isSet w v = true
  · rw [if_neg (show ¬ isSet w v = false by rw [c]; decide), if_pos c] at h1 h2
    refine ⟨_, _, _, h1, h2, Tw.op (T := F.now.sSettings (upd F.now.settings w.toNatClampNeg v)) h (ST.set_inv h.inv (setOk_upd h.inv.2.2.2.2.1 c)) (ST.set_snd s _) z ?_ hz hY⟩
    show F.now.time.toInt ≤ _
    omega
  · rw [if_neg c] at h1 h2
    rw [if_pos (bnot c)] at h1 h2
    exact ⟨_, _, _, h1, h2, h.less⟩
