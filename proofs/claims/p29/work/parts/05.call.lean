/-! ===== contracts, calls, the walk by a program ===== -/
def rmd (d : Nat) : Room := { frames := d, cells := 0, slots := 0, locals := 36 * d }
def xPre (D : xD) (ad : Nat → Nat) (sz : Nat) (w : xW) : State → Prop := fun U => U.heap.size = sz ∧ va_P (D.1, D.2.1) classes (xw D ad w) U.heap ∧ xKn D U ∧ ∀ i j, i < w.length → j < w.length → ad i = ad j → i = j
def xQ (D : xD) (ad : Nat → Nat) (w w' : xW) (sz : Nat) (r : Option Value) : Array Value → State → Outcome → State → Prop := fun _ st oc t => oc = .returned r ∧ va_P (D.1, D.2.1) classes (xw D ad w') t.heap ∧ va_F (va_A (xw D ad w) sz) st t
/-- method y, called with av on the state P, answers r and leaves P' -/
def Con {τ : Type} (y : MethodName) (cc : ByteArray) (maxL : Nat) (ret : Option FieldType) (d : Nat) (toW : τ → xW) (av : List Value) (P : τ) (r : Option Value) (P' : τ) : Prop :=
  (toW P').length = (toW P).length ∧ ∀ (l : Launch) (D : xD) (ad : Nat → Nat) (sz : Nat), Met l y (.code y cc maxL ret :: WS) (rmd d) (va_Pc (av.map (xv ad)) (xPre D ad sz (toW P))) (xQ D ad (toW P) (toW P') sz r) 0 0 (va_A (xw D ad (toW P)) sz)
def xargs : List Value → xL
  | [] => []
  | .long y :: t => some (.long y) :: none :: xargs t
  | v :: t => some v :: xargs t
def xarg (av : List Value) (n : Nat) : xL := xargs av ++ List.replicate (n - (xargs av).length) none
def xplain : Value → Bool
  | .int _ => true
  | .ref _ => true
  | .long _ => true
  | _ => false
theorem lvp_none (ad : Nat → Nat) : ∀ (n k : Nat), lvp ad k (List.replicate n none) = []
  | 0, _ => rfl
  | n + 1, k => by rw [List.replicate_succ, lvp]; exact lvp_none ad n (k + 1)
theorem lvp_app (ad : Nat → Nat) : ∀ (a b : xL) (k : Nat), lvp ad k (a ++ b) = lvp ad k a ++ lvp ad (k + a.length) b
  | [], b, k => by simp [lvp]
  | none :: t, b, k => by
    show lvp ad (k + 1) (t ++ b) = lvp ad (k + 1) t ++ _
    rw [lvp_app ad t b (k + 1)]
    congr 2
    simp; omega
  | some v :: t, b, k => by
    show (k, xv ad v) :: lvp ad (k + 1) (t ++ b) = (k, xv ad v) :: (lvp ad (k + 1) t ++ _)
    rw [lvp_app ad t b (k + 1)]
    congr 3
    simp; omega
theorem lvp_args (ad : Nat → Nat) : ∀ (av : List Value) (k : Nat), (∀ v ∈ av, xplain v = true) → lvp ad k (xargs av) = lv_args k (av.map (xv ad))
  | [], k, _ => rfl
  | v :: t, k, h => by
    have ht := fun k => lvp_args ad t k (fun u hu => h u (List.mem_cons_of_mem _ hu))
    have hv := h v List.mem_cons_self
    cases v <;> simp only [xplain, Bool.false_eq_true] at hv <;> simp [xargs, lvp, lv_args, xv, Value.category, ht]
theorem lg_sl_cons (v : Value) (t : List Value) : lg_sl (v :: t) = (if v.category = 2 then [.val v, .second] else [.val v]) ++ lg_sl t := by simp [lg_sl]
theorem xargs_len (ad : Nat → Nat) : ∀ (av : List Value), (∀ v ∈ av, xplain v = true) → (lg_sl (av.map (xv ad))).length = (xargs av).length
  | [], _ => rfl
  | v :: t, h => by
    have ht := xargs_len ad t (fun u hu => h u (List.mem_cons_of_mem _ hu))
    have hv := h v List.mem_cons_self
    rw [List.map_cons, lg_sl_cons, List.length_append, ht]
    cases v <;> simp only [xplain, Bool.false_eq_true] at hv <;> simp [xargs, xv, Value.category] <;> omega
theorem xno_mem {v : Value} (hc : v.category = 2) : ∀ (av : List Value), (∀ u ∈ av, xplain u = true) → some v ∈ xargs av → ∃ y, v = .long y
  | [], _, hm => by cases hm
  | a :: t, h, hm => by
    have ha := h a List.mem_cons_self
    have ih := xno_mem hc t (fun u hu => h u (List.mem_cons_of_mem _ hu))
    cases a <;> simp only [xplain, Bool.false_eq_true] at ha <;> simp only [xargs, List.mem_cons, Option.some.injEq, reduceCtorEq, false_or] at hm
    · rcases hm with rfl | hm
      · cases hc
      · exact ih hm
    · rcases hm with rfl | hm
      · exact ⟨_, rfl⟩
      · exact ih hm
    · rcases hm with rfl | hm
      · cases hc
      · exact ih hm
theorem xno_args (av : List Value) (h : ∀ v ∈ av, xplain v = true) (n : Nat) : xno (xargs av ++ List.replicate n none) := by
  intro j v hj hc
  rcases List.mem_append.mp (List.mem_of_getElem? hj) with hm | hm
  · exact xno_mem hc av h hm
  · cases (List.mem_replicate.mp hm).2
/-- a contract, out of a walk from the method's entry -/
theorem Con.of {τ : Type} {y : MethodName} {cc : ByteArray} {maxL d : Nat} {ret : Option FieldType} {toW : τ → xW} {av : List Value} {P P' : τ} {r : Option Value}
    (hy : plainName y.cls = true) (hlen : (toW P').length = (toW P).length) (hpl : av.all xplain = true) (hm : (xargs av).length ≤ maxL) 
    (body : ∀ E : En, Fx E y.cls cc maxL d → Fr E ret → Gd E toW 100000 [] r.toList P' → Gd E toW 0 (xarg av maxL) [] P) : Con y cc maxL ret d toW av P r P' := by
  refine ⟨hlen, fun l D ad sz => ?_⟩
  have hpl' : ∀ v ∈ av, xplain v = true := fun v hv => List.all_eq_true.mp hpl v hv
  refine Met.ofW (cc := cc) (maxL := maxL) (ret := ret) hy rfl ?_
  intro p e s m args below meth c s₁ B hml hv
  obtain ⟨rfl, hsz, hP, hK, hap⟩ := hv
  have hts := atoms_spec (ws := .code y cc maxL ret :: WS) B.pre
  have hown : s.vm.findClass y.cls = some m.cls := findClass_of_methodNamed B.named
  subst hsz
  have hF : Fx (p, l, e, (headSpec (.code y cc maxL ret :: WS) (rmd d)).room, s, m, (av.map (xv ad)).toArray, below, meth, c, xQ D ad (toW P) (toW P') s.heap.size r, MQ below (xQ D ad (toW P) (toW P') s.heap.size r) (av.map (xv ad)).toArray s 0 0 (va_A (xw D ad (toW P)) s.heap.size), (0, 0), va_A (xw D ad (toW P)) s.heap.size, maxL, D, ad) y.cls cc maxL d :=
    ⟨B.exec, B.bytes, hml, rfl, hown, fun w hw => hts w (List.mem_cons_of_mem _ hw), B.notSynchronized, hK, fun q hq => Or.inr hq, Nat.zero_le _, Nat.zero_le _, Nat.le_refl _, Nat.le_refl _⟩
  have hxap : xap (va_A (xw D ad (toW P)) s.heap.size) ad (toW P).length := ⟨hap, fun i hi => by
    obtain ⟨c, hc⟩ : ∃ c, (toW P)[i]? = some c := ⟨_, List.getElem?_eq_getElem hi⟩
    exact Or.inl ⟨i, xc D ad c, by rw [xw_get, hc]; rfl⟩⟩
  have h := body _ hF ⟨B.returns, rfl⟩ (fun H locs hP' _ hS => ⟨fun _ t ht _ => ⟨by cases r <;> rfl, by rw [ht]; exact hP', hS.F ht⟩, fun q => absurd rfl q⟩)
  have hl := lv_entry (av.map (xv ad)) (n := maxL) (by rw [xargs_len ad av hpl']; exact hm)
  rw [lg_entry_eq]
  refine (h s.heap [] hP hxap va_S.rf).2 (by decide) (by simp [xarg]; omega) (xno_args av hpl' _) _ ?_
  rw [show lvp ad 0 (xarg av maxL) = lv_args 0 (av.map (xv ad)) by rw [xarg, lvp_app, lvp_none, List.append_nil, lvp_args ad av 0 hpl']]
  exact hl
/-! a callee's cells among the caller's -/
def xrn (ρ : Nat → Nat) : Value → Value
  | .ref k => .ref (ρ k)
  | v => v
def xcr (ρ : Nat → Nat) : xCell → xCell
  | .inl a => .inl a
  | .inr (.inl (ci, fs)) => .inr (.inl (ci, fs.map (xrn ρ)))
  | .inr (.inr (n, f)) => .inr (.inr (n, fun j => (f j).map ρ))
theorem xc_rn (D : xD) (ad ρ : Nat → Nat) (c : xCell) : xc D ad (xcr ρ c) = xc D (fun i => ad (ρ i)) c := by
  match c with
  | .inl (t, n, f) => rfl
  | .inr (.inl (ci, fs)) =>
    simp only [xcr, xc, List.map_map]
    congr 3
    funext v
    cases v <;> rfl
  | .inr (.inr (n, f)) =>
    simp only [xcr, xc]
    congr 7
    funext j
    cases f j <;> rfl
/-- u at the places ρ of w; u' at the same of w', the rest as it was -/
def Emb (ρ : Nat → Nat) (w w' u u' : xW) : Prop :=
  u'.length = u.length ∧ w'.length = w.length ∧ (∀ i j, i < u.length → j < u.length → ρ i = ρ j → i = j) ∧ (∀ i c, u[i]? = some c → w[ρ i]? = some (xcr ρ c)) ∧ (∀ i c, u'[i]? = some c → w'[ρ i]? = some (xcr ρ c)) ∧
  ∀ j c, w'[j]? = some c → (∃ i, i < u.length ∧ j = ρ i) ∨ (w[j]? = some c ∧ ∀ i, i < u.length → ρ i ≠ j)
theorem Emb.block {b : Nat} {w1 w2 u u' : xW} (hb : w1.length = b) (hl : u'.length = u.length) : Emb (fun i => b + i) (w1 ++ (u.map (xcr (fun i => b + i)) ++ w2)) (w1 ++ (u'.map (xcr (fun i => b + i)) ++ w2)) u u' := by
  subst hb
  refine ⟨hl, by simp [hl], fun i j _ _ h => by dsimp only at h; omega, fun i c h => ?_, fun i c h => ?_, fun j c h => ?_⟩
  · have hi := (List.getElem?_eq_some_iff.mp h).1
    dsimp only
    rw [List.getElem?_append_right (by omega), List.getElem?_append_left (by simp; omega), List.getElem?_map]
    simp [h]
  · have hi := (List.getElem?_eq_some_iff.mp h).1
    dsimp only
    rw [List.getElem?_append_right (by omega), List.getElem?_append_left (by simp; omega), List.getElem?_map]
    simp [h]
  · by_cases h1 : j < w1.length
    · rw [List.getElem?_append_left h1] at h
      exact Or.inr ⟨by rw [List.getElem?_append_left h1]; exact h, fun i _ => by dsimp only; omega⟩
    · by_cases h2 : j < w1.length + u.length
      · exact Or.inl ⟨j - w1.length, by omega, by dsimp only; omega⟩
      · refine Or.inr ⟨?_, fun i hi => by dsimp only; omega⟩
        rw [List.getElem?_append_right (by omega), List.getElem?_append_right (by simp; omega)] at h ⊢
        simpa [hl] using h
/-- no cell at all -/
theorem Emb.none {w : xW} : Emb (fun i => i) w w [] [] := ⟨rfl, rfl, fun i j h => by simp at h, fun i c h => by simp at h, fun i c h => by simp at h, fun j c h => Or.inr ⟨h, fun i hi => by simp at hi⟩⟩
section CALL
variable {p : Program} {l : Launch} {e : Jvm.Env} {R : Room} {s : State} {m : MethodId} {args : Array Value} {below : List Frame} {meth : Method} {c : Code} {H : Heap} {locs : List Loc} {cells slots : Nat} {Q : State → Prop}
theorem x_call {pc : Nat} {ls : Array Slot} {st0 rest : List Value} {Qa : State → Outcome → State → Prop} {free : Addr → Prop} (hr : va_Run p l e R s m args below meth c H locs cells slots 0 0 (F0 m pc ls st0) rest Qa free)
    (kk : ∀ (v : Option Value) (st₀ t : State) (L : List Loc), st₀.heap = H → (∀ q ∈ L, free q.base) → Qa st₀ (.returned v) t → W p l e R s m args below meth c t.heap (locs ++ L) cells slots Q (F0 m (pc + 3) ls (v.toList ++ rest))) : W p l e R s m args below meth c H locs cells slots Q (F0 m pc ls st0) := by
  intro T hT X
  obtain ⟨v, st₀, t, T', L, h0, X', hL, e1, e2, hq, st⟩ := hr T hT X
  obtain ⟨t2, a1, b1⟩ := kk v st₀ t L h0 hL hq T' e1 X'
  exact ⟨t2, st t2 a1, b1⟩
end CALL
section BACK
variable {D : xD} {ad ρ : Nat → Nat} {w w' u u' : xW} {A : Nat → Prop} {H H0 H1 : Heap} {locs L : List Loc}
theorem emb_P (h : Emb ρ w w' u u') (hP : va_P (D.1, D.2.1) classes (xw D ad w) H) : va_P (D.1, D.2.1) classes (xw D (fun i => ad (ρ i)) u) H := by
  intro k q hq
  rw [xw_get] at hq
  cases hu : u[k]? with
  | none => rw [hu] at hq; cases hq
  | some c =>
    rw [hu] at hq
    cases hq
    have h1 := h.2.2.2.1 k c hu
    have h2 := hP (ρ k) (ad (ρ k), xc D ad (xcr ρ c)) (by rw [xw_get, h1]; rfl)
    rw [xc_rn] at h2
    exact h2
theorem emb_A (h : Emb ρ w w' u u') (hap : xap A ad w.length) (hA : ∀ q, H.size ≤ q → A q) : ∀ q, va_A (xw D (fun i => ad (ρ i)) u) H.size q → A q := by
  intro q hq
  rcases hq with ⟨k, ee, hk⟩ | hq
  · rw [xw_get] at hk
    cases hu : u[k]? with
    | none => rw [hu] at hk; cases hk
    | some c =>
      rw [hu] at hk
      cases hk
      exact hap.2 (ρ k) (List.getElem?_eq_some_iff.mp (h.2.2.2.1 k c hu)).1
  · exact hA q hq
theorem emb_back (h : Emb ρ w w' u u') (hap : xap A ad w.length) (hP : va_P (D.1, D.2.1) classes (xw D ad w) H) (hP1 : va_P (D.1, D.2.1) classes (xw D (fun i => ad (ρ i)) u') H1)
    (hk : ∀ q : Nat, q < H.size → ¬ va_A (xw D (fun i => ad (ρ i)) u) H.size q → H1[q]? = H[q]?) : va_P (D.1, D.2.1) classes (xw D ad w') H1 := by
  intro k q hq
  rw [xw_get] at hq
  cases hw : w'[k]? with
  | none => rw [hw] at hq; cases hq
  | some c =>
    rw [hw] at hq
    cases hq
    rcases h.2.2.2.2.2 k c hw with ⟨i, hi, rfl⟩ | ⟨h1, h2⟩
    · have hi' : i < u'.length := by rw [h.1]; exact hi
      have e1 := h.2.2.2.2.1 i u'[i] (List.getElem?_eq_getElem hi')
      rw [hw] at e1
      cases e1
      have h3 := hP1 i (ad (ρ i), xc D (fun i => ad (ρ i)) u'[i]) (by rw [xw_get, List.getElem?_eq_getElem hi']; rfl)
      show va_at _ _ (ad (ρ i), _) _
      rw [xc_rn]
      exact h3
    · have h3 := hP k (ad k, xc D ad c) (by rw [xw_get, h1]; rfl)
      refine h3.kept (hk (ad k) h3.lt fun hA => ?_)
      rcases hA with ⟨i, ee, hi⟩ | hA
      · rw [xw_get] at hi
        cases hu : u[i]? with
        | none => rw [hu] at hi; cases hi
        | some c2 =>
          rw [hu] at hi
          have hi2 : ad (ρ i) = ad k := (Prod.mk.inj (Option.some.inj hi)).1
          have hil := (List.getElem?_eq_some_iff.mp hu).1
          exact h2 i hil (hap.1 _ _ (List.getElem?_eq_some_iff.mp (h.2.2.2.1 i c2 hu)).1 (List.getElem?_eq_some_iff.mp h1).1 hi2)
      · exact absurd h3.lt (by simpa using hA)
end BACK
/-- a method's spec: what a call with av on P answers (a transformer of what is wanted behind it) -/
abbrev Sp (τ : Type) : Type := List Value → τ → (Option Value → τ → Prop) → Prop
def xnum : Option Value → Prop
  | some (.ref _) => False
  | _ => True
theorem xnum_map {r : Option Value} (h : xnum r) (ad : Nat → Nat) : r.toList.map (xv ad) = r.toList := by
  match r, h with
  | none, _ => rfl
  | some (.int _), _ => rfl
  | some (.long _), _ => rfl
  | some (.float _), _ => rfl
  | some (.double _), _ => rfl
  | some .null, _ => rfl
  | some (.retAddr _), _ => rfl
def SpOk {τ : Type} (y : MethodName) (cc : ByteArray) (maxL : Nat) (ret : Option FieldType) (d : Nat) (toW : τ → xW) (sp : Sp τ) : Prop :=
  ∀ av P K, sp av P K → ∃ r P', xnum r ∧ Con y cc maxL ret d toW av P r P' ∧ K r P'
/-- what a call needs of the words, by a program -/
def cokV (own : String) (ix : Nat) (y : MethodName) (cc : ByteArray) (maxL : Nat) (ret : Option FieldType) (n : Nat) : Bool :=
  wsHas [.methodLink own ix y, .instanceMethod y, .selects y.cls y y, .initialized y.cls, .code y cc maxL ret] && decide (y.cls ≠ "java/lang/invoke/MethodHandle" ∧ y.cls ≠ "java/lang/invoke/VarHandle" ∧ (parseMethodDescriptor y.desc).map (fun d => d.parameters.length) = some n ∧ maxL ≤ 17)
def cokS (own : String) (ix : Nat) (y : MethodName) (cc : ByteArray) (maxL : Nat) (ret : Option FieldType) (n : Nat) : Bool :=
  wsHas [.methodLink own ix y, .static y, .initialized y.cls, .code y cc maxL ret] && decide (y.cls ≠ "java/lang/invoke/MethodHandle" ∧ y.cls ≠ "java/lang/invoke/VarHandle" ∧ (parseMethodDescriptor y.desc).map (fun d => d.parameters.length) = some n ∧ maxL ≤ 17)
def cokN (own : String) (ix : Nat) (host : String) (y : MethodName) (cc : ByteArray) (maxL : Nat) (ret : Option FieldType) (n : Nat) : Bool :=
  wsHas [.static y, .initialized y.cls, .code y cc maxL ret] && decide ((own, ix, y, host) ∈ xNestM ∧ y.cls ≠ "java/lang/invoke/MethodHandle" ∧ y.cls ≠ "java/lang/invoke/VarHandle" ∧ (parseMethodDescriptor y.desc).map (fun d => d.parameters.length) = some n ∧ maxL ≤ 17)
theorem ws_GoodIn {l : List Cond} (h : ∀ w ∈ l, w ∈ WS) : GoodIn WS l := fun w hw => ⟨h w hw, good_of_word (ws_good (h w hw))⟩
theorem blind_xPre {av : List Value} {D : xD} {ad : Nat → Nat} {sz : Nat} {w : xW} : FrameBlind (va_Pc av (xPre D ad sz w)) := fun a U g mk q => ⟨q.1, q.2.1, q.2.2.1, q.2.2.2.1.calling g mk a, q.2.2.2.2⟩
section CALLS
variable {σ τ : Type} {E : En} {own : String} {cc : ByteArray} {maxL d pc : Nat} {toW : σ → xW} {toT : τ → xW}
theorem call_after {p : Program} {l : Launch} {e : Jvm.Env} {R : Room} {s : State} {m : MethodId} {args : Array Value} {below : List Frame} {meth : Method} {c : Code} {Qc : Array Value → State → Outcome → State → Prop} {Q : State → Prop} {cs : Nat × Nat} {A : Nat → Prop} {nL : Nat} {D : xD} {ad : Nat → Nat}
    (F : Fx (p, l, e, R, s, m, args, below, meth, c, Qc, Q, cs, A, nL, D, ad) own cc maxL d) {ρ : Nat → Nat} {w w' u u' : xW} (hE : Emb ρ w w' u u') {r : Option Value} (hr : xnum r) {L : xL} {rest : List Value} {S' : σ} (hw' : toW S' = w')
    (hk : Gd (p, l, e, R, s, m, args, below, meth, c, Qc, Q, cs, A, nL, D, ad) toW (pc + 3) L (r.toList ++ rest) S') (hpc : pc + 3 < 100000)
    {H : Heap} {locs : List Loc} (hP : va_P (D.1, D.2.1) classes (xw D ad w) H) (hap : xap A ad w.length) (hS : va_S A s.heap H locs) (hL : L.length = nL) (hn : xno L) {ls : Array Slot} (hl : lv_has ls nL (lvp ad 0 L))
    {a : Array Value} {v : Option Value} {st₀ t : State} {L1 : List Loc} (h0 : st₀.heap = H) (hf : ∀ q ∈ L1, va_A (xw D (fun i => ad (ρ i)) u) H.size q.base) (hq : xQ D (fun i => ad (ρ i)) u u' H.size r a st₀ (.returned v) t) :
    W p l e R s m args below meth c t.heap (locs ++ L1) cs.1 cs.2 Q (F0 m (pc + 3) ls (v.toList ++ rest.map (xv ad))) := by
  obtain ⟨e1, hP1, hz, hkk⟩ := hq
  cases e1
  rw [h0] at hz hkk
  have hA := F.2.2.2.2.2.2.2.2.1
  have hA' := emb_A (D := D) (H := H) hE hap (fun q hq => hA q (Nat.le_trans hS.1 hq))
  have h1 := hk.use hpc (H := t.heap) (locs := locs ++ L1) (by rw [hw']; exact emb_back hE hap hP hP1 hkk) (by rw [hw', hE.2.1]; exact hap) ⟨Nat.le_trans hS.1 hz, fun q g1 g2 => by
    rw [hkk q (Nat.lt_of_lt_of_le g1 hS.1) (fun z => g2 (hA' q z))]
    exact hS.2.1 q g1 g2, fun q hq => by
      rcases List.mem_append.mp hq with g | g
      · exact hS.2.2 q g
      · exact hA' _ (hf q g)⟩ hL hn hl
  rw [List.map_append, xnum_map hr] at h1
  exact h1
theorem cat_sum8 {ad : Nat → Nat} {r : List Value} (h : r.length ≤ 4) : ((r.map (xv ad)).map fun v => v.category).sum ≤ 8 := by
  have := cat_sum ad r
  omega
def xint : Value → Bool
  | .int _ => true
  | .long _ => true
  | _ => false
theorem xint_map {as : List Value} (h : as.all xint = true) (ad : Nat → Nat) : as.map (xv ad) = as := by
  refine (List.map_congr_left fun v hv => ?_).trans (List.map_id as)
  have := List.all_eq_true.mp h v hv
  cases v <;> first | rfl | cases this
/-- a call of an instance's method: n numbers, the receiver at the place b -/
def O_callV (n b : Nat) (g : σ → τ) (f : σ → τ → σ) (sp : Sp τ) : Op σ := fun K pc L st S => match st.drop n with
  | .ref k :: r => k = b ∧ r.length ≤ 4 ∧ (st.take n).all xint = true ∧ sp (.ref 0 :: (st.take n).reverse) (g S) (fun v P' => K (pc + 3) L (v.toList ++ r) (f S P'))
  | _ => False
def Lens (toW : σ → xW) (toT : τ → xW) (b : Nat) (g : σ → τ) (f : σ → τ → σ) : Prop :=
  ∀ S P', ∃ w1 w2, w1.length = b ∧ toW S = w1 ++ ((toT (g S)).map (xcr (fun i => b + i)) ++ w2) ∧ toW (f S P') = w1 ++ ((toT P').map (xcr (fun i => b + i)) ++ w2)
/-- the receiver's class -/
def rcvOk (toT : τ → xW) (C : String) : Prop := ∀ P : τ, ∃ (ci : Nat) (fs : List Value) (T : u_T) (N : Nat), (toT P)[0]? = some (.inr (.inl (ci, fs))) ∧ classes[ci]? = some (C, T, N)
theorem ok_callV (F : Fx E own cc maxL d) {ix n b : Nat} {y : MethodName} {ycc : ByteArray} {ymL dy : Nat} {yret : Option FieldType} {g : σ → τ} {f : σ → τ → σ} {sp : Sp τ} (hsp : SpOk y ycc ymL yret dy toT sp) (hln : Lens toW toT b g f) (hrc : rcvOk toT y.cls) (hck : cokV own ix y ycc ymL yret n = true) (hdd : dy + 1 ≤ d) (hd : decode cc pc = .ok (.invokevirtual ix, 3)) (hpc : pc + 3 < 100000) : OpOk E toW pc (O_callV n b g f sp) := by
  refine OpOk.mk (by omega) fun {p l e R s m args below meth c Qc Q cs A nL D ad} hE K L st S ho hk H locs hP hap hS hL hn ls hl => ?_
  subst hE
  unfold O_callV at ho
  split at ho
  · rename_i k r hst
    obtain ⟨rfl, hr4, hints, ho⟩ := ho
    obtain ⟨rv, P', hnum, ⟨hlen, hM⟩, hK⟩ := hsp _ _ _ ho
    obtain ⟨w1, w2, hb, hw, hw'⟩ := hln S P'
    have hEm := Emb.block (w2 := w2) hb hlen
    rw [← hw, ← hw'] at hEm
    obtain ⟨h1, h2, h3, h4, h5, h6, h7, h8, h9, h10, h11, h12, h13⟩ := id F
    simp only [cokV, Bool.and_eq_true, decide_eq_true_eq] at hck
    obtain ⟨hws, hd1, hd2, hd3, hd4⟩ := hck
    have hz := fun w (hh : w ∈ _) => wsHas_mem hws hh
    have hlt : n ≤ st.length := by
      rcases Nat.lt_or_ge st.length n with q | q
      · rw [List.drop_eq_nil_of_le (by omega)] at hst; cases hst
      · exact q
    have hsplit : st = st.take n ++ .ref k :: r := by rw [← hst, List.take_append_drop]
    obtain ⟨ci, fs, T, N, hr0, hrc0⟩ := hrc (g S)
    have hrcell := hEm.2.2.2.1 0 _ hr0
    refine x_call (va_runV (y := y) (bytes := ycc) (maxL := ymL) (ret := yret) (n := n) (As := (st.take n).reverse) (rest := r.map (xv ad)) (b := ad k) (C := y.cls) ⟨h1, h2, h3, h5, h6⟩ (hM l D (fun i => ad (k + i)) H.size) (cwV n h6 (ws_GoodIn ?_) rfl rfl rfl ⟨rfl, hd1, hd2, hd3⟩ ⟨?_, ?_⟩) ⟨blind_xPre, ?_, fun U hU hW => ⟨?_, ?_, ?_, ?_, ?_⟩⟩ rfl ?_ (hl.1) ?_ (lv_room (cat_sum8 hr4)) hd ⟨?_, ?_⟩) (fun v st₀ t L1 h0 hf hq => call_after F hEm hnum rfl (hk _ _ _ _ hK) hpc hP hap hS hL hn hl h0 hf hq)
    · intro w hw
      simp only [wsV, List.mem_append, List.mem_cons, List.not_mem_nil, or_false] at hw
      rcases hw with (rfl | rfl | rfl | rfl) | rfl | hw
      · exact hz _ (by simp)
      · exact hz _ (by simp)
      · exact hz _ (by simp)
      · exact hz _ (by simp)
      · exact hz _ (by simp)
      · exact hw
    · show dy + 1 ≤ _; omega
    · show 8 + (ymL + 11) + 36 * dy ≤ _; omega
    · exact va_recv (ci := ci) (q0 := k) h8.1 hP hrc0 (by rw [xw_get, show (toW S)[k]? = _ from hrcell]; rfl)
    · show _ = (List.map _ (Value.ref 0 :: (st.take n).reverse)).toArray
      rw [List.map_cons, xint_map (by rw [List.all_reverse]; exact hints)]
      rfl
    · rw [hU]
    · rw [hU]; exact emb_P hEm hP
    · exact h8.warm hW
    · intro i j hi hj hij
      exact hEm.2.2.1 i j hi hj (hap.1 _ _ (by have := (List.getElem?_eq_some_iff.mp (hEm.2.2.2.1 i _ (List.getElem?_eq_getElem hi))).1; exact this) (by have := (List.getElem?_eq_some_iff.mp (hEm.2.2.2.1 j _ (List.getElem?_eq_getElem hj))).1; exact this) hij)
    · rw [List.length_reverse, List.length_take]; omega
    · show st.map _ = _
      rw [List.reverse_reverse]
      conv => lhs; rw [hsplit]
      rw [List.map_append, xint_map hints]
      rfl
    · omega
    · omega
  · exact ho.elim
/-- a call of a static method of numbers -/
def O_callS (n : Nat) (sp : Sp Unit) : Op σ := fun K pc L st S => n ≤ st.length ∧ (st.drop n).length ≤ 4 ∧ (st.take n).all xint = true ∧ sp (st.take n).reverse () (fun v _ => K (pc + 3) L (v.toList ++ st.drop n) S)
abbrev toU : Unit → xW := fun _ => []
theorem ok_callS (F : Fx E own cc maxL d) {ix n : Nat} {y : MethodName} {ycc : ByteArray} {ymL dy : Nat} {yret : Option FieldType} {sp : Sp Unit} (hsp : SpOk y ycc ymL yret dy toU sp) (hck : cokS own ix y ycc ymL yret n = true) (hyo : y.cls = own) (hdd : dy + 1 ≤ d) (hd : decode cc pc = .ok (.invokestatic ix, 3)) (hpc : pc + 3 < 100000) : OpOk E toW pc (O_callS n sp) := by
  refine OpOk.mk (by omega) fun {p l e R s m args below meth c Qc Q cs A nL D ad} hE K L st S ho hk H locs hP hap hS hL hn ls hl => ?_
  subst hE
  obtain ⟨hlt, hr4, hints, ho⟩ := ho
  obtain ⟨rv, P', hnum, ⟨hlen, hM⟩, hK⟩ := hsp _ _ _ ho
  have hEm : Emb (fun i => i) (toW S) (toW S) (toU ()) (toU P') := Emb.none
  obtain ⟨h1, h2, h3, h4, h5, h6, h7, h8, h9, h10, h11, h12, h13⟩ := id F
  simp only [cokS, Bool.and_eq_true, decide_eq_true_eq] at hck
  obtain ⟨hws, hd1, hd2, hd3, hd4⟩ := hck
  have hz := fun w (hh : w ∈ _) => wsHas_mem hws hh
  refine x_call (va_runS (y := y) (bytes := ycc) (maxL := ymL) (ret := yret) (n := n) (As := (st.take n).reverse) (rest := (st.drop n).map (xv ad)) ⟨h1, h2, h3, h5, h6⟩ (hM l D (fun i => ad i) H.size) (cwS n h6 (ws_GoodIn ?_) rfl rfl rfl ⟨hyo, hd1, hd2, hd3⟩ ⟨?_, ?_⟩) ⟨blind_xPre, fun U hU hW => ⟨?_, ?_, ?_, ?_, ?_⟩⟩ rfl ?_ (hl.1) ?_ (lv_room (cat_sum8 hr4)) hd ⟨?_, ?_⟩) (fun v st₀ t L1 h0 hf hq => call_after F hEm hnum rfl (hk _ _ _ _ hK) hpc hP hap hS hL hn hl h0 hf hq)
  · intro w hw
    simp only [wsS, List.mem_append, List.mem_cons, List.not_mem_nil, or_false] at hw
    rcases hw with (rfl | rfl | rfl) | rfl | hw
    · exact hz _ (by simp)
    · exact hz _ (by simp)
    · rw [← hyo]; exact hz _ (by simp)
    · exact hz _ (by simp)
    · exact hw
  · show dy + 1 ≤ _; omega
  · show 8 + (ymL + 11) + 36 * dy ≤ _; omega
  · show _ = (List.map _ (st.take n).reverse).toArray
    rw [xint_map (by rw [List.all_reverse]; exact hints)]
  · rw [hU]
  · rw [hU]; exact emb_P hEm hP
  · exact h8.warm hW
  · intro i j hi; exact absurd hi (by simp [toU])
  · rw [List.length_reverse, List.length_take]; omega
  · show st.map _ = _
    rw [List.reverse_reverse]
    conv => lhs; rw [← List.take_append_drop n st]
    rw [List.map_append, xint_map hints]
  · omega
  · omega
theorem ok_callSN (F : Fx E own cc maxL d) {ix n : Nat} {host : String} {y : MethodName} {ycc : ByteArray} {ymL dy : Nat} {yret : Option FieldType} {sp : Sp Unit} (hsp : SpOk y ycc ymL yret dy toU sp) (hck : cokN own ix host y ycc ymL yret n = true) (hdd : dy + 1 ≤ d) (hd : decode cc pc = .ok (.invokestatic ix, 3)) (hpc : pc + 3 < 100000) : OpOk E toW pc (O_callS n sp) := by
  refine OpOk.mk (by omega) fun {p l e R s m args below meth c Qc Q cs A nL D ad} hE K L st S ho hk H locs hP hap hS hL hn ls hl => ?_
  subst hE
  obtain ⟨hlt, hr4, hints, ho⟩ := ho
  obtain ⟨rv, P', hnum, ⟨hlen, hM⟩, hK⟩ := hsp _ _ _ ho
  have hEm : Emb (fun i => i) (toW S) (toW S) (toU ()) (toU P') := Emb.none
  obtain ⟨h1, h2, h3, h4, h5, h6, h7, h8, h9, h10, h11, h12, h13⟩ := id F
  simp only [cokN, Bool.and_eq_true, decide_eq_true_eq] at hck
  obtain ⟨hws, hnm, hd1, hd2, hd3, hd4⟩ := hck
  have hz := fun w (hh : w ∈ _) => wsHas_mem hws hh
  refine x_call (va_runSN (y := y) (host := host) (bytes := ycc) (maxL := ymL) (ret := yret) (n := n) (As := (st.take n).reverse) (rest := (st.drop n).map (xv ad)) ⟨h1, h2, h3, h5, h6⟩ (hM l D (fun i => ad i) H.size) ⟨va_cnB n h6 (ws_GoodIn ?_) rfl rfl rfl (h8.2.1 _ hnm) (h6 _ (hz _ (by simp))) ⟨hd1, hd2, hd3⟩ ⟨?_, ?_⟩, h6 _ (hz _ (by simp)), trivial⟩ ⟨blind_xPre, fun U hU hW => ⟨?_, ?_, ?_, ?_, ?_⟩⟩ rfl ?_ (hl.1) ?_ (lv_room (cat_sum8 hr4)) hd ⟨?_, ?_⟩) (fun v st₀ t L1 h0 hf hq => call_after F hEm hnum rfl (hk _ _ _ _ hK) hpc hP hap hS hL hn hl h0 hf hq)
  · intro w hw
    rcases List.mem_cons.mp hw with rfl | hw
    · exact hz _ (by simp)
    · exact hw
  · show dy + 1 ≤ _; omega
  · show 8 + (ymL + 11) + 36 * dy ≤ _; omega
  · show _ = (List.map _ (st.take n).reverse).toArray
    rw [xint_map (by rw [List.all_reverse]; exact hints)]
  · rw [hU]
  · rw [hU]; exact emb_P hEm hP
  · exact h8.warm hW
  · intro i j hi; exact absurd hi (by simp [toU])
  · rw [List.length_reverse, List.length_take]; omega
  · show st.map _ = _
    rw [List.reverse_reverse]
    conv => lhs; rw [← List.take_append_drop n st]
    rw [List.map_append, xint_map hints]
  · omega
  · omega
end CALLS
/-! the walk by a program: from an instruction to the next cuts -/
def lkp {σ : Type} : List (Nat × Op σ) → Nat → Option (Op σ)
  | [], _ => none
  | (k, o) :: t, pc => if k = pc then some o else lkp t pc
theorem lkp_mem {σ : Type} : ∀ {cod : List (Nat × Op σ)} {pc : Nat} {op : Op σ}, lkp cod pc = some op → (pc, op) ∈ cod
  | [], _, _, h => by cases h
  | (k, o) :: t, pc, op, h => by
    unfold lkp at h
    split at h
    · rename_i e; subst e; cases h; exact List.mem_cons_self
    · exact List.mem_cons_of_mem _ (lkp_mem h)
def nx {σ : Type} (cod : List (Nat × Op σ)) (cuts : List Nat) (K : Kt σ) : Nat → Kt σ
  | 0, pc, L, st, S => K pc L st S
  | n + 1, pc, L, st, S => if cuts.elem pc = true then K pc L st S else match lkp cod pc with
    | some op => op (nx cod cuts K n) pc L st S
    | none => K pc L st S
def nx1 {σ : Type} (cod : List (Nat × Op σ)) (cuts : List Nat) (K : Kt σ) (n : Nat) : Kt σ := fun pc L st S => match lkp cod pc with
    | some op => op (nx cod cuts K n) pc L st S
    | none => False
def CodOk {σ : Type} (E : En) (toW : σ → xW) (cod : List (Nat × Op σ)) : Prop := ∀ q ∈ cod, OpOk E toW q.1 q.2
theorem nx_ok {σ : Type} {E : En} {toW : σ → xW} {cod : List (Nat × Op σ)} (hc : CodOk E toW cod) {cuts : List Nat} : ∀ (n pc : Nat) (L : xL) (st : List Value) (S : σ), nx cod cuts (Gd E toW) n pc L st S → Gd E toW pc L st S
  | 0, _, _, _, _, h => h
  | n + 1, pc, L, st, S, h => by
    unfold nx at h
    split at h
    · exact h
    · split at h
      · rename_i op hop
        exact hc _ (lkp_mem hop) _ L st S h (nx_ok hc n)
      · exact h
theorem nx1_ok {σ : Type} {E : En} {toW : σ → xW} {cod : List (Nat × Op σ)} (hc : CodOk E toW cod) (cuts : List Nat) (n : Nat) {pc : Nat} {L : xL} {st : List Value} {S : σ} (h : nx1 cod cuts (Gd E toW) n pc L st S) : Gd E toW pc L st S := by
  unfold nx1 at h
  split at h
  · rename_i op hop
    exact hc _ (lkp_mem hop) _ L st S h (nx_ok hc n)
  · exact h.elim
