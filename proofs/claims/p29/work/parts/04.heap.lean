/-! ===== operations on cells ===== -/
def getF (w : xW) (ci id slot : Nat) : Option Value := match w[id]? with
  | some (.inr (.inl (c, fs))) => if c = ci then fs[slot]? else none
  | _ => none
def getA (w : xW) (id : Nat) : Option (Nat × Nat × (Nat → Int32)) := match w[id]? with
  | some (.inl a) => some a
  | _ => none
def getR (w : xW) (id : Nat) : Option (Nat × (Nat → Option Nat)) := match w[id]? with
  | some (.inr (.inr a)) => some a
  | _ => none
theorem getF_some {w : xW} {ci id slot : Nat} {v : Value} (h : getF w ci id slot = some v) : ∃ fs, w[id]? = some (.inr (.inl (ci, fs))) ∧ fs[slot]? = some v := by
  unfold getF at h
  split at h
  · rename_i c fs hw
    split at h
    · rename_i e; subst e; exact ⟨fs, hw, h⟩
    · cases h
  · cases h
theorem getA_some {w : xW} {id : Nat} {a : Nat × Nat × (Nat → Int32)} (h : getA w id = some a) : w[id]? = some (.inl a) := by
  unfold getA at h
  split at h
  · rename_i hw; cases h; exact hw
  · cases h
theorem getR_some {w : xW} {id : Nat} {a : Nat × (Nat → Option Nat)} (h : getR w id = some a) : w[id]? = some (.inr (.inr a)) := by
  unfold getR at h
  split at h
  · rename_i hw; cases h; exact hw
  · cases h
/-- a state's function that puts a number into a field: what it does to the world -/
def putOk {σ : Type} (toW : σ → xW) (ci slot : Nat) (pf : σ → Nat → Int32 → Option σ) : Prop :=
  ∀ S id x S', pf S id x = some S' → ∃ fs, (toW S)[id]? = some (.inr (.inl (ci, fs))) ∧ slot < fs.length ∧ toW S' = (toW S).set id (.inr (.inl (ci, fs.set slot (.int x))))
/-- .. that puts an array's new contents -/
def sarOk {σ : Type} (toW : σ → xW) (sa : σ → Nat → (Nat → Int32) → Option σ) : Prop :=
  ∀ S id g S' t n f, sa S id g = some S' → getA (toW S) id = some (t, n, f) → toW S' = (toW S).set id (.inl (t, n, g))
/-- a place of a class that a field link names -/
def fldOk (own : String) (ix ci slot : Nat) : Bool := match classes[ci]? with
  | some q => decide (slot < q.2.2) && lw_tbl.contains (Cond.fieldLink own ix (q.2.1 slot).1 (q.2.1 slot).2.1 (q.2.1 slot).2.2.1)
  | none => false
theorem fldOk_spec {own : String} {ix ci slot : Nat} (h : fldOk own ix ci slot = true) : ∃ (C : String) (T : u_T) (N : Nat), classes[ci]? = some (C, T, N) ∧ slot < N ∧ Cond.fieldLink own ix (T slot).1 (T slot).2.1 (T slot).2.2.1 ∈ WS := by
  unfold fldOk at h
  split at h
  · rename_i q hq
    obtain ⟨C, T, N⟩ := q
    rw [Bool.and_eq_true, decide_eq_true_eq] at h
    exact ⟨C, T, N, hq, h.1, ws_in (by simpa using h.2) rfl⟩
  · cases h
theorem classes_ty {ci slot : Nat} {C : String} {T : u_T} {N : Nat} (h : classes[ci]? = some (C, T, N)) (hs : slot < N) : parseFieldDescriptor (T slot).2.2.1 = some (tyOf ci slot) := (xcls h).2.1 slot hs
theorem arrV_congr (cI : ClassId) (N : Nat) (f g : Nat → Value) (h : ∀ j, j < N → f j = g j) : arrV cI N f = arrV cI N g := by
  unfold arrV
  congr 1
  apply Array.ext
  · simp
  · intro i h1 h2
    simp at h1
    simp [h i h1]
section HEAP
variable {σ : Type} {E : En} {own : String} {cc : ByteArray} {maxL d pc : Nat} {toW : σ → xW}
def O_getf (toW : σ → xW) (ci slot : Nat) : Op σ := fun K pc L st S => match st with
  | .ref id :: r => (match getF (toW S) ci id slot with
    | some v => K (pc + 3) L (v :: r) S
    | none => False)
  | _ => False
theorem ok_getf (F : Fx E own cc maxL d) {ix ci slot : Nat} (hf : fldOk own ix ci slot = true) (hd : decode cc pc = .ok (.getfield ix, 3)) (hpc : pc + 3 < 100000) : OpOk E toW pc (O_getf toW ci slot) := by
  refine OpOk.mk (by omega) fun hE K L st S ho hk H locs hP hap hS hL hn ls hl => ?_
  subst hE
  unfold O_getf at ho
  split at ho
  · rename_i id r
    split at ho
    · rename_i v hv
      obtain ⟨C, T, N, hc, hs, hw⟩ := fldOk_spec hf
      obtain ⟨fs, h1, h2⟩ := getF_some hv
      obtain ⟨c1, c2, c3⟩ := xcls hc
      exact va_get (D := (_, _)) (C := C) (T := T) (N := N) (ci := ci) (fs := fs.map (xv _)) F.1 F.2.1 F.2.2.2.2.2.1 c1 F.2.2.2.2.1 F.2.2.2.2.2.2.2.1.1 hP id (by rw [xw_get, h1]; rfl) hc slot hs (F.2.2.2.2.2.1 _ hw) (fun _ h9 => h9) (by rw [List.getElem?_map, h2]; rfl) hd ((hk _ _ _ _ ho).use hpc hP hap hS hL hn hl)
    · exact ho.elim
  · exact ho.elim
/-- a field of a number: of type int -/
def O_puti (pf : σ → Nat → Int32 → Option σ) : Op σ := fun K pc L st S => match st with
  | .int x :: .ref id :: r => (match pf S id x with
    | some S' => K (pc + 3) L r S'
    | none => False)
  | _ => False
/-- .. of type boolean or char -/
def O_putn (ty : FieldType) (pf : σ → Nat → Int32 → Option σ) : Op σ := fun K pc L st S => match st with
  | .int x :: .ref id :: r => (narrow ty (.int x) = .int x ∧ fits ty (.int x) = true) ∧ (match pf S id x with
    | some S' => K (pc + 3) L r S'
    | none => False)
  | _ => False
theorem xap_len {A : Nat → Prop} {ad : Nat → Nat} {w w' : xW} (h : xap A ad w.length) (e : w'.length = w.length) : xap A ad w'.length := by rw [e]; exact h
theorem put_go {p : Program} {l : Launch} {e : Jvm.Env} {R : Room} {s : State} {m : MethodId} {args : Array Value} {below : List Frame} {meth : Method} {c : Code} {Qc : Array Value → State → Outcome → State → Prop} {Q : State → Prop} {cs : Nat × Nat} {A : Nat → Prop} {nL : Nat} {D : xD} {ad : Nat → Nat}
    (F : Fx (p, l, e, R, s, m, args, below, meth, c, Qc, Q, cs, A, nL, D, ad) own cc maxL d) {ix ci slot : Nat} {pf : σ → Nat → Int32 → Option σ} (hp : putOk toW ci slot pf) (hfin : ∀ C T N, classes[ci]? = some (C, T, N) → (T slot).2.2.2 = false) (hf : fldOk own ix ci slot = true) (hd : decode cc pc = .ok (.putfield ix, 3)) (hpc : pc + 3 < 100000)
    {S S' : σ} {id : Nat} {x : Int32} {r : List Value} {L : xL} (h1 : pf S id x = some S') (hn1 : narrow (tyOf ci slot) (.int x) = .int x) (hn2 : fits (tyOf ci slot) (.int x) = true) (hk : Gd (p, l, e, R, s, m, args, below, meth, c, Qc, Q, cs, A, nL, D, ad) toW (pc + 3) L r S')
    {H : Heap} {locs : List Loc} (hP : va_P (D.1, D.2.1) classes (xw D ad (toW S)) H) (hap : xap A ad (toW S).length) (hS : va_S A s.heap H locs) (hL : L.length = nL) (hn : xno L) {ls : Array Slot} (hl : lv_has ls nL (lvp ad 0 L)) :
    W p l e R s m args below meth c H locs cs.1 cs.2 Q (F0 m pc ls ((Value.int x :: Value.ref id :: r).map (xv ad))) := by
  obtain ⟨C, T, N, hc, hs, hw⟩ := fldOk_spec hf
  obtain ⟨fs, g1, g2, g3⟩ := hp S id x S' h1
  obtain ⟨c1, c2, c3⟩ := xcls hc
  have hw1 : xw D ad (toW S') = (xw D ad (toW S)).set id (ad id, .inr (ci, (fs.map (xv ad)).set slot (.int x))) := by
    rw [g3, xw_set]
    simp [xc, xv]
  refine va_put (D := (D.1, D.2.1)) (C := C) (T := T) (N := N) (ci := ci) (fs := fs.map (xv ad)) (v := .int x) F.1 F.2.1 F.2.2.2.2.2.1 c1 (tyOf ci) c2 c3 F.2.2.2.2.1 F.2.2.2.2.2.2.2.1.1 hP (xap_D D hap) hS id (by rw [xw_get, g1]; rfl) hc slot hs (F.2.2.2.2.2.1 _ hw) (fun _ h9 => h9) (hfin _ _ _ hc) (c2 slot hs) hn1 hn2 (by simpa using g2) hd (fun H1 locs1 hP1 hD1 hS1 => ?_)
  rw [← hw1] at hP1
  exact hk.use hpc hP1 (xap_len hap (by rw [g3]; simp)) hS1 hL hn hl
theorem ok_puti (F : Fx E own cc maxL d) {ix ci slot : Nat} {pf : σ → Nat → Int32 → Option σ} (hp : putOk toW ci slot pf) (hfin : ∀ C T N, classes[ci]? = some (C, T, N) → (T slot).2.2.2 = false) (hty : tyOf ci slot = .int) (hf : fldOk own ix ci slot = true) (hd : decode cc pc = .ok (.putfield ix, 3)) (hpc : pc + 3 < 100000) : OpOk E toW pc (O_puti pf) := by
  refine OpOk.mk (by omega) fun hE K L st S ho hk H locs hP hap hS hL hn ls hl => ?_
  subst hE
  unfold O_puti at ho
  split at ho
  · split at ho
    · rename_i S' h1
      exact put_go F hp hfin hf hd hpc h1 (by rw [hty]; rfl) (by rw [hty]; rfl) (hk _ _ _ _ ho) hP hap hS hL hn hl
    · exact ho.elim
  · exact ho.elim
theorem ok_putn (F : Fx E own cc maxL d) {ix ci slot : Nat} {ty : FieldType} {pf : σ → Nat → Int32 → Option σ} (hp : putOk toW ci slot pf) (hfin : ∀ C T N, classes[ci]? = some (C, T, N) → (T slot).2.2.2 = false) (hty : tyOf ci slot = ty) (hf : fldOk own ix ci slot = true) (hd : decode cc pc = .ok (.putfield ix, 3)) (hpc : pc + 3 < 100000) : OpOk E toW pc (O_putn ty pf) := by
  refine OpOk.mk (by omega) fun hE K L st S ho hk H locs hP hap hS hL hn ls hl => ?_
  subst hE
  unfold O_putn at ho
  split at ho
  · obtain ⟨⟨n1, n2⟩, ho⟩ := ho
    split at ho
    · rename_i S' h1
      exact put_go F hp hfin hf hd hpc h1 (by rw [hty]; exact n1) (by rw [hty]; exact n2) (hk _ _ _ _ ho) hP hap hS hL hn hl
    · exact ho.elim
  · exact ho.elim
-- arrays of numbers
def O_ald (toW : σ → xW) (tag : Nat) : Op σ := fun K pc L st S => match st with
  | .int i :: .ref id :: r => (match getA (toW S) id with
    | some (t, n, f) => t = tag ∧ vp_in i n ∧ K (pc + 1) L (.int (f i.toNatClampNeg) :: r) S
    | none => False)
  | _ => False
theorem ok_iald (F : Fx E own cc maxL d) (hd : decode cc pc = .ok (.iaload, 1)) (hpc : pc + 1 < 100000) : OpOk E toW pc (O_ald toW 0) := by
  refine OpOk.mk (by omega) fun hE K L st S ho hk H locs hP hap hS hL hn ls hl => ?_
  subst hE
  unfold O_ald at ho
  split at ho
  · rename_i i id r
    split at ho
    · rename_i t n f hv
      obtain ⟨rfl, h2, h3⟩ := ho
      exact va_iald F.1 F.2.1 F.2.2.2.2.2.2.2.1.1 hP id 0 (by rw [xw_get, getA_some hv]; rfl) (xty_get _ (by decide)) h2 hd ((hk _ _ _ _ h3).use hpc hP hap hS hL hn hl)
    · exact ho.elim
  · exact ho.elim
theorem ok_zald (F : Fx E own cc maxL d) (hd : decode cc pc = .ok (.baload, 1)) (hpc : pc + 1 < 100000) : OpOk E toW pc (O_ald toW 1) := by
  refine OpOk.mk (by omega) fun hE K L st S ho hk H locs hP hap hS hL hn ls hl => ?_
  subst hE
  unfold O_ald at ho
  split at ho
  · rename_i i id r
    split at ho
    · rename_i t n f hv
      obtain ⟨rfl, h2, h3⟩ := ho
      exact va_zald F.1 F.2.1 F.2.2.2.2.2.2.2.1.1 hP id 1 (by rw [xw_get, getA_some hv]; rfl) (xty_get _ (by decide)) h2 hd ((hk _ _ _ _ h3).use hpc hP hap hS hL hn hl)
    · exact ho.elim
  · exact ho.elim
theorem ok_cald (F : Fx E own cc maxL d) (hd : decode cc pc = .ok (.caload, 1)) (hpc : pc + 1 < 100000) : OpOk E toW pc (O_ald toW 2) := by
  refine OpOk.mk (by omega) fun hE K L st S ho hk H locs hP hap hS hL hn ls hl => ?_
  subst hE
  unfold O_ald at ho
  split at ho
  · rename_i i id r
    split at ho
    · rename_i t n f hv
      obtain ⟨rfl, h2, h3⟩ := ho
      exact va_cald F.1 F.2.1 F.2.2.2.2.2.2.2.1.1 hP id 2 (by rw [xw_get, getA_some hv]; rfl) (xty_get _ (by decide)) h2 hd ((hk _ _ _ _ h3).use hpc hP hap hS hL hn hl)
    · exact ho.elim
  · exact ho.elim
def xnar (tag : Nat) (x : Int32) : Int32 := match tag with
  | 0 => x
  | 1 => vp_nar .boolean x
  | _ => vp_nar .char x
def O_ast (toW : σ → xW) (tag : Nat) (sa : σ → Nat → (Nat → Int32) → Option σ) : Op σ := fun K pc L st S => match st with
  | .int x :: .int i :: .ref id :: r => (match getA (toW S) id with
    | some (t, n, f) => t = tag ∧ vp_in i n ∧ (match sa S id (upd f i.toNatClampNeg (xnar tag x)) with
      | some S' => K (pc + 1) L r S'
      | none => False)
    | none => False)
  | _ => False
theorem ok_iast (F : Fx E own cc maxL d) {sa : σ → Nat → (Nat → Int32) → Option σ} (hp : sarOk toW sa) (hd : decode cc pc = .ok (.iastore, 1)) (hpc : pc + 1 < 100000) : OpOk E toW pc (O_ast toW 0 sa) := by
  refine OpOk.mk (by omega) fun hE K L st S ho hk H locs hP hap hS hL hn ls hl => ?_
  subst hE
  unfold O_ast at ho
  split at ho
  · rename_i x i id r
    split at ho
    · rename_i t n f hv
      obtain ⟨rfl, h2, h3⟩ := ho
      split at h3
      · rename_i S' h4
        have g3 := hp _ _ _ _ _ _ _ h4 hv
        refine va_iast F.1 F.2.1 F.2.2.2.2.2.2.2.1.1 hP (xap_D _ hap) hS id 0 (by rw [xw_get, getA_some hv]; rfl) (xty_get _ (by decide)) h2 hd (fun H1 locs1 hP1 hD1 hS1 => ?_)
        refine (hk _ _ _ _ h3).use hpc ?_ (xap_len hap (by rw [g3]; simp)) hS1 hL hn hl
        rw [g3, xw_set]
        exact hP1
      · exact h3.elim
    · exact ho.elim
  · exact ho.elim
theorem ok_zast (F : Fx E own cc maxL d) {sa : σ → Nat → (Nat → Int32) → Option σ} (hp : sarOk toW sa) (hd : decode cc pc = .ok (.bastore, 1)) (hpc : pc + 1 < 100000) : OpOk E toW pc (O_ast toW 1 sa) := by
  refine OpOk.mk (by omega) fun hE K L st S ho hk H locs hP hap hS hL hn ls hl => ?_
  subst hE
  unfold O_ast at ho
  split at ho
  · rename_i x i id r
    split at ho
    · rename_i t n f hv
      obtain ⟨rfl, h2, h3⟩ := ho
      split at h3
      · rename_i S' h4
        have g3 := hp _ _ _ _ _ _ _ h4 hv
        refine va_zast F.1 F.2.1 F.2.2.2.2.2.2.2.1.1 hP (xap_D _ hap) hS id 1 (by rw [xw_get, getA_some hv]; rfl) (xty_get _ (by decide)) h2 hd (fun H1 locs1 hP1 hD1 hS1 => ?_)
        refine (hk _ _ _ _ h3).use hpc ?_ (xap_len hap (by rw [g3]; simp)) hS1 hL hn hl
        rw [g3, xw_set]
        exact hP1
      · exact h3.elim
    · exact ho.elim
  · exact ho.elim
theorem ok_cast (F : Fx E own cc maxL d) {sa : σ → Nat → (Nat → Int32) → Option σ} (hp : sarOk toW sa) (hd : decode cc pc = .ok (.castore, 1)) (hpc : pc + 1 < 100000) : OpOk E toW pc (O_ast toW 2 sa) := by
  refine OpOk.mk (by omega) fun hE K L st S ho hk H locs hP hap hS hL hn ls hl => ?_
  subst hE
  unfold O_ast at ho
  split at ho
  · rename_i x i id r
    split at ho
    · rename_i t n f hv
      obtain ⟨rfl, h2, h3⟩ := ho
      split at h3
      · rename_i S' h4
        have g3 := hp _ _ _ _ _ _ _ h4 hv
        refine va_cast F.1 F.2.1 F.2.2.2.2.2.2.2.1.1 hP (xap_D _ hap) hS id 2 (by rw [xw_get, getA_some hv]; rfl) (xty_get _ (by decide)) h2 hd (fun H1 locs1 hP1 hD1 hS1 => ?_)
        refine (hk _ _ _ _ h3).use hpc ?_ (xap_len hap (by rw [g3]; simp)) hS1 hL hn hl
        rw [g3, xw_set]
        exact hP1
      · exact h3.elim
    · exact ho.elim
  · exact ho.elim
-- an array of references, read
def O_aald (toW : σ → xW) : Op σ := fun K pc L st S => match st with
  | .int i :: .ref id :: r => (match getR (toW S) id with
    | some (n, f) => vp_in i n ∧ (match f i.toNatClampNeg with
      | some k => K (pc + 1) L (.ref k :: r) S
      | none => False)
    | none => False)
  | _ => False
theorem ok_aald (F : Fx E own cc maxL d) (hd : decode cc pc = .ok (.aaload, 1)) (hpc : pc + 1 < 100000) : OpOk E toW pc (O_aald toW) := by
  refine OpOk.mk (by omega) fun hE K L st S ho hk H locs hP hap hS hL hn ls hl => ?_
  subst hE
  unfold O_aald at ho
  split at ho
  · rename_i i id r
    split at ho
    · rename_i n f hv
      obtain ⟨h2, h3⟩ := ho
      split at h3
      · rename_i k hfk
        refine va_aldq (C := RX4) F.1 F.2.1 F.2.2.2.2.2.2.2.1.1 hP id 3 (by rw [xw_get, getR_some hv]; rfl) (xty_get _ (t := 3) (by decide)) h2 hd ?_
        rw [hfk]
        exact (hk _ _ _ _ h3).use hpc hP hap hS hL hn hl
      · exact h3.elim
    · exact ho.elim
  · exact ho.elim
/-- .. written: an object of class Station -/
def sarqOk {σ : Type} (toW : σ → xW) (sa : σ → Nat → (Nat → Option Nat) → Option σ) : Prop :=
  ∀ S id g S' n f, sa S id g = some S' → getR (toW S) id = some (n, f) → toW S' = (toW S).set id (.inr (.inr (n, g)))
def O_aast (toW : σ → xW) (sa : σ → Nat → (Nat → Option Nat) → Option σ) : Op σ := fun K pc L st S => match st with
  | .ref v :: .int i :: .ref id :: r => (match getR (toW S) id with
    | some (n, f) => vp_in i n ∧ (∃ fs, (toW S)[v]? = some (.inr (.inl (4, fs)))) ∧ (match sa S id (va_up f i.toNatClampNeg (some v)) with
      | some S' => K (pc + 1) L r S'
      | none => False)
    | none => False)
  | _ => False
theorem va_up_map {ad : Nat → Nat} (f : Nat → Option Nat) (k v : Nat) : (fun j => (va_up f k (some v) j).map ad) = va_up (fun j => (f j).map ad) k (some (ad v)) := by
  funext j
  simp only [va_up]
  split <;> rfl
theorem ok_aast (F : Fx E own cc maxL d) {sa : σ → Nat → (Nat → Option Nat) → Option σ} (hp : sarqOk toW sa) (hd : decode cc pc = .ok (.aastore, 1)) (hpc : pc + 1 < 100000) : OpOk E toW pc (O_aast toW sa) := by
  refine OpOk.mk (by omega) fun hE K L st S ho hk H locs hP hap hS hL hn ls hl => ?_
  subst hE
  unfold O_aast at ho
  split at ho
  · rename_i v i id r
    split at ho
    · rename_i n f hv
      obtain ⟨h2, ⟨fs, hfs⟩, h3⟩ := ho
      split at h3
      · rename_i S' h4
        have g3 := hp _ _ _ _ _ _ h4 hv
        refine va_astq (r := (RX4, TX4, 17)) F.1 F.2.1 F.2.2.2.2.2.2.2.1.1 hP (xap_D _ hap) hS id 3 v 4 (by rw [xw_get, getR_some hv]; rfl) (xty_get _ (t := 3) (by decide)) (by rw [xw_get, hfs]; rfl) rfl h2 hd (fun H1 locs1 hP1 hD1 hS1 => ?_)
        refine (hk _ _ _ _ h3).use hpc ?_ (xap_len hap (by rw [g3]; simp)) hS1 hL hn hl
        rw [g3, xw_set]
        simp only [xc, va_up_map]
        exact hP1
      · exact h3.elim
    · exact ho.elim
  · exact ho.elim
-- Math.min, Math.max
def O_min : Op σ := fun K pc L st S => match st with
  | .int y :: .int x :: r => r.length ≤ 4 ∧ K (pc + 3) L (.int (if y < x then y else x) :: r) S
  | _ => False
def O_max : Op σ := fun K pc L st S => match st with
  | .int y :: .int x :: r => r.length ≤ 4 ∧ K (pc + 3) L (.int (if x < y then y else x) :: r) S
  | _ => False
theorem cat_sum (ad : Nat → Nat) : ∀ (r : List Value), ((r.map (xv ad)).map fun v => v.category).sum ≤ 2 * r.length
  | [] => by simp
  | v :: r => by
    have h := cat_sum ad r
    have h2 : v.category ≤ 2 := by cases v <;> simp [Value.category]
    simp only [List.map_cons, List.sum_cons, List.length_cons, xv_cat]
    omega
theorem ok_min (F : Fx E own cc maxL d) {ix : Nat} (hw : wsHas [Cond.methodLink own ix Lib.Math.min.name, Cond.static Lib.Math.min.name, Cond.initialized "java/lang/Math", Cond.code Lib.Math.min.name Lib.Math.min.code 2 (some .int)] = true) (hdd : 1 ≤ d) (hd : decode cc pc = .ok (.invokestatic ix, 3)) (hpc : pc + 3 < 100000) : OpOk E toW pc O_min := by
  refine OpOk.mk (by omega) fun hE K L st S ho hk H locs hP hap hS hL hn ls hl => ?_
  subst hE
  unfold O_min at ho
  split at ho
  · rename_i y x r
    obtain ⟨h1, h2, h3, h4, h5, h6, h7, h8, h9, h10, h11, h12, h13⟩ := id F
    have hz := fun w (hh : w ∈ _) => h6 w (wsHas_mem hw hh)
    have hc := cat_sum (ad := by assumption) r
    exact va_mmin h1 h2 (by rw [h3]; exact hl.1.symm) h5 (hz _ (by simp)) (hz _ (by simp)) (hz _ (by simp)) (hz _ (by simp)) (by omega) (by omega) h10 h11 hd ((hk _ _ _ _ ho.2).use hpc hP hap hS hL hn hl)
  · exact ho.elim
theorem ok_max (F : Fx E own cc maxL d) {ix : Nat} (hw : wsHas [Cond.methodLink own ix Lib.Math.max.name, Cond.static Lib.Math.max.name, Cond.initialized "java/lang/Math", Cond.code Lib.Math.max.name Lib.Math.max.code 2 (some .int)] = true) (hdd : 1 ≤ d) (hd : decode cc pc = .ok (.invokestatic ix, 3)) (hpc : pc + 3 < 100000) : OpOk E toW pc O_max := by
  refine OpOk.mk (by omega) fun hE K L st S ho hk H locs hP hap hS hL hn ls hl => ?_
  subst hE
  unfold O_max at ho
  split at ho
  · rename_i y x r
    obtain ⟨h1, h2, h3, h4, h5, h6, h7, h8, h9, h10, h11, h12, h13⟩ := id F
    have hz := fun w (hh : w ∈ _) => h6 w (wsHas_mem hw hh)
    have hc := cat_sum (ad := by assumption) r
    exact va_mmax h1 h2 (by rw [h3]; exact hl.1.symm) h5 (hz _ (by simp)) (hz _ (by simp)) (hz _ (by simp)) (hz _ (by simp)) (by omega) (by omega) h10 h11 hd ((hk _ _ _ _ ho.2).use hpc hP hap hS hL hn hl)
  · exact ho.elim
-- System.arraycopy of a whole array into one as long
def O_acopy (toW : σ → xW) (sa : σ → Nat → (Nat → Int32) → Option σ) : Op σ := fun K pc L st S => match st with
  | .int n :: .int dp :: .ref a :: .int sp :: .ref a0 :: r => (match getA (toW S) a0, getA (toW S) a with
    | some (t0, n0, f), some (t1, n1, _) => (t0 = t1 ∧ t1 < 3 ∧ n0 = n1 ∧ sp = 0 ∧ dp = 0 ∧ n.toNatClampNeg = n1 ∧ ¬ n < 0 ∧ r.length ≤ 4) ∧ (∀ i, i < n1 → fits (tagTy t1) (.int (f i)) = true) ∧ (match sa S a f with
      | some S' => K (pc + 3) L r S'
      | none => False)
    | _, _ => False)
  | _ => False
theorem ok_acopy (F : Fx E own cc maxL d) {ix : Nat} {sa : σ → Nat → (Nat → Int32) → Option σ} (hp : sarOk toW sa) (hw : wsHas [Cond.methodLink own ix arraycopyName, Cond.native arraycopyName, Cond.static arraycopyName, Cond.initialized "java/lang/System"] = true) (hdd : 1 ≤ d) (hd : decode cc pc = .ok (.invokestatic ix, 3)) (hpc : pc + 3 < 100000) : OpOk E toW pc (O_acopy toW sa) := by
  refine OpOk.mk (by omega) fun hE K L st S ho hk H locs hP hap hS hL hn ls hl => ?_
  subst hE
  unfold O_acopy at ho
  split at ho
  · rename_i n dp a sp a0 r
    split at ho
    · rename_i t0 n0 f t1 n1 g hv0 hv1
      obtain ⟨⟨rfl, e2, rfl, rfl, rfl, e6, e7, e8⟩, hfit, ho⟩ := ho
      split at ho
      · rename_i S' h4
        have g3 := hp _ _ _ _ _ _ _ h4 hv1
        obtain ⟨h1, h2, h3, h4, h5, h6, h7, h8, h9, h10, h11, h12, h13⟩ := id F
        have hz := fun w (hh : w ∈ _) => h6 w (wsHas_mem hw hh)
        have hc := cat_sum (ad := by assumption) r
        have hnw : nativeFrameWords "java/lang/System" "arraycopy" 5 + 11 ≤ 28 := by decide +kernel
        have hpr : refKind (tagTy t0) = false := by
          match t0, e2 with
          | 0, _ => rfl
          | 1, _ => rfl
          | 2, _ => rfl
        refine va_copyi h1 h2 (by rw [h3]; exact hl.1.symm) h5 (hz _ (by simp)) (hz _ (by simp)) (hz _ (by simp)) (hz _ (by simp)) h8.1 hP (xap_D _ hap) hS a0 a t0 t0 (by rw [xw_get, getA_some hv0]; rfl) (by rw [xw_get, getA_some hv1]; rfl) (xty_get _ (by omega)) (xty_get _ (by omega)) hpr (by decide) (by decide) e7 (by rw [e6]; simp) (by rw [e6]; simp) (fun i hi => by rw [e6] at hi; simpa using hfit i hi) (by omega) (by omega) hd (fun H1 locs1 hP1 hD1 hS1 => ?_)
        refine (hk _ _ _ _ ho).use hpc ?_ (xap_len hap (by rw [g3]; simp)) hS1 hL hn hl
        rw [g3, xw_set]
        intro k q hq
        by_cases hka : a = k
        · subst hka
          have hlt : a < (toW S).length := (List.getElem?_eq_some_iff.mp (getA_some hv1)).1
          have h9' := hP1 a _ (List.getElem?_set_self (by rw [xw_len]; exact hlt))
          rw [List.getElem?_set_self (by rw [xw_len]; exact hlt)] at hq
          cases hq
          show H1[_]? = _
          refine Eq.trans h9' (congrArg some ?_)
          dsimp only
          rw [vp_cell_i, vp_cell_i]
          refine arrV_congr _ _ _ _ fun j hj => ?_
          simp only [va_cpy]
          rw [if_pos ⟨Nat.zero_le _, by rw [e6]; simpa using hj⟩]
          simp
        · refine hP1 k q ?_
          rw [List.getElem?_set_ne hka] at hq ⊢
          exact hq
      · exact ho.elim
    · exact ho.elim
  · exact ho.elim
-- the ends
def O_iret : Op σ := fun K _ _ st S => match st with
  | [.int x] => K 100000 [] [.int x] S
  | _ => False
def O_zret : Op σ := fun K _ _ st S => match st with
  | [.int x] => narrow .boolean (.int x) = .int x ∧ K 100000 [] [.int x] S
  | _ => False
def O_vret : Op σ := fun K _ _ st S => match st with
  | [] => K 100000 [] [] S
  | _ => False
theorem ok_iret (F : Fx E own cc maxL d) (G : Fr E (some .int)) (hd : decode cc pc = .ok (.ireturn, 1)) (hpc : pc < 100000) : OpOk E toW pc O_iret := by
  refine OpOk.mk hpc fun hE K L st S ho hk H locs hP hap hS hL hn ls hl => ?_
  subst hE
  unfold O_iret at ho
  split at ho
  · obtain ⟨G1, rfl⟩ := id G
    exact W.iret F.1 F.2.1 G1 (fun t ht hW => (hk _ _ _ _ ho H locs hP hap hS).1 rfl t ht hW) hS.2.2 hd (hlocks := F.2.2.2.2.2.2.1)
  · exact ho.elim
theorem ok_zret (F : Fx E own cc maxL d) (G : Fr E (some .boolean)) (hd : decode cc pc = .ok (.ireturn, 1)) (hpc : pc < 100000) : OpOk E toW pc O_zret := by
  refine OpOk.mk hpc fun hE K L st S ho hk H locs hP hap hS hL hn ls hl => ?_
  subst hE
  unfold O_zret at ho
  split at ho
  · obtain ⟨G1, rfl⟩ := id G
    exact W.zret F.1 F.2.1 G1 ho.1 (fun t ht hW => (hk _ _ _ _ ho.2 H locs hP hap hS).1 rfl t ht hW) hS.2.2 hd (hlocks := F.2.2.2.2.2.2.1)
  · exact ho.elim
theorem ok_vret (F : Fx E own cc maxL d) (G : Fr E none) (hd : decode cc pc = .ok (.return_, 1)) (hpc : pc < 100000) : OpOk E toW pc O_vret := by
  refine OpOk.mk hpc fun hE K L st S ho hk H locs hP hap hS hL hn ls hl => ?_
  subst hE
  unfold O_vret at ho
  split at ho
  · obtain ⟨G1, rfl⟩ := id G
    exact W.vret F.1 F.2.1 G1 (fun t ht hW => (hk _ _ _ _ ho H locs hP hap hS).1 rfl t ht hW) hS.2.2 hd (hlocks := F.2.2.2.2.2.2.1)
  · exact ho.elim
end HEAP
