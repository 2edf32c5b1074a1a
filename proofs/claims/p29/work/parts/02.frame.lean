/-! ===== the frame of the whole proof: a method's walk over ABSTRACT cells; each instruction is an operation on (pc, locals, stack, state), proved once over the kit's rows ===== -/
/-- an abstract cell: an array of numbers (kind 0 int, 1 boolean, 2 char; length; contents), an object (class, fields), an array of references; a reference is the cell's place in the world -/
abbrev xCell : Type := (Nat × Nat × (Nat → Int32)) ⊕ ((Nat × List Value) ⊕ (Nat × (Nat → Option Nat)))
abbrev xW : Type := List xCell
abbrev xD : Type := (Nat → ClassId) × (Nat → Nat → Nat) × (Nat → ClassId)
abbrev xL : Type := List (Option Value)
def classes : List vw_C := [(RX0, TX0, 5), (RX1, TX1, 4), (RX2, TX2, 7), (RX3, TX3, 10), (RX4, TX4, 17), (RX5, TX5, 7), (RX6, TX6, 5)]
def tyOf (ci : Nat) : Nat → FieldType := match ci with
  | 0 => tyX0
  | 1 => tyX1
  | 2 => tyX2
  | 3 => tyX3
  | 4 => tyX4
  | 5 => tyX5
  | _ => tyX6
/-- the words that every method may use -/
def WS : List Cond := lw_tbl.filter goodWord
theorem ws_in {w : Cond} (h : w ∈ lw_tbl) (g : goodWord w = true) : w ∈ WS := List.mem_filter.mpr ⟨h, g⟩
theorem ws_tbl {w : Cond} (h : w ∈ WS) : w ∈ lw_tbl := (List.mem_filter.mp h).1
theorem ws_good {w : Cond} (h : w ∈ WS) : goodWord w = true := (List.mem_filter.mp h).2
/-- many words at once, by a program -/
def wsHas (l : List Cond) : Bool := l.all (fun w => lw_tbl.contains w && goodWord w)
theorem wsHas_mem {l : List Cond} (h : wsHas l = true) {w : Cond} (hw : w ∈ l) : w ∈ WS := by
  have h1 := List.all_eq_true.mp h w hw
  rw [Bool.and_eq_true] at h1
  exact ws_in (by simpa using h1.1) h1.2
def xcls_ok (q : vw_C) (ty : Nat → FieldType) : Prop := (∀ w ∈ u_ws q.1 q.2.1 q.2.2, w ∈ WS) ∧ (∀ k, k < q.2.2 → parseFieldDescriptor (q.2.1 k).2.2.1 = some (ty k)) ∧ (∀ a, a < q.2.2 → ∀ b, b < q.2.2 → a ≠ b → (q.2.1 a).2.1 ≠ (q.2.1 b).2.1)
theorem xcls0 : xcls_ok (RX0, TX0, 5) tyX0 := ⟨fun _ h => wsHas_mem (l := wsX00) (by decide +kernel) h, tyX0_ok, nmX0⟩
theorem xcls1 : xcls_ok (RX1, TX1, 4) tyX1 := ⟨fun _ h => wsHas_mem (l := wsX10) (by decide +kernel) h, tyX1_ok, nmX1⟩
theorem xcls2 : xcls_ok (RX2, TX2, 7) tyX2 := ⟨fun _ h => wsHas_mem (l := wsX20) (by decide +kernel) h, tyX2_ok, nmX2⟩
theorem xcls3 : xcls_ok (RX3, TX3, 10) tyX3 := ⟨fun _ h => wsHas_mem (l := wsX30) (by decide +kernel) h, tyX3_ok, nmX3⟩
theorem xcls4 : xcls_ok (RX4, TX4, 17) tyX4 := ⟨fun _ h => wsHas_mem (l := wsX40) (by decide +kernel) h, tyX4_ok, nmX4⟩
theorem xcls5 : xcls_ok (RX5, TX5, 7) tyX5 := ⟨fun _ h => wsHas_mem (l := wsX50) (by decide +kernel) h, tyX5_ok, nmX5⟩
theorem xcls6 : xcls_ok (RX6, TX6, 5) tyX6 := ⟨fun _ h => wsHas_mem (l := wsX60) (by decide +kernel) h, tyX6_ok, nmX6⟩
theorem xcls {ci : Nat} {q : vw_C} (h : classes[ci]? = some q) : xcls_ok q (tyOf ci) := by
  match ci, h with
  | 0, h => cases h; exact xcls0
  | 1, h => cases h; exact xcls1
  | 2, h => cases h; exact xcls2
  | 3, h => cases h; exact xcls3
  | 4, h => cases h; exact xcls4
  | 5, h => cases h; exact xcls5
  | 6, h => cases h; exact xcls6
  | n + 7, h => simp [classes] at h
def xv (ad : Nat → Nat) : Value → Value
  | .ref k => .ref (ad k)
  | v => v
theorem xv_cat (ad : Nat → Nat) (v : Value) : (xv ad v).category = v.category := by cases v <;> rfl
def xc (D : xD) (ad : Nat → Nat) : xCell → va_E
  | .inl (t, n, f) => .inl (D.2.2 t, n, .inl f)
  | .inr (.inl (ci, fs)) => .inr (ci, fs.map (xv ad))
  | .inr (.inr (n, f)) => .inl (D.2.2 3, n, .inr (.inr (.inr (.inr (fun j => (f j).map ad)))))
def xw (D : xD) (ad : Nat → Nat) (w : xW) : va_W := w.mapIdx (fun i c => (ad i, xc D ad c))
theorem xw_get (D : xD) (ad : Nat → Nat) (w : xW) (i : Nat) : (xw D ad w)[i]? = w[i]?.map (fun c => (ad i, xc D ad c)) := by simp [xw]
theorem xw_set (D : xD) (ad : Nat → Nat) (w : xW) (i : Nat) (c : xCell) : xw D ad (w.set i c) = (xw D ad w).set i (ad i, xc D ad c) := by
  apply List.ext_getElem?
  intro j
  rw [xw_get, List.getElem?_set, List.getElem?_set]
  by_cases h : i = j
  · subst h
    simp [xw]
  · simp [h, xw_get]
theorem xw_len (D : xD) (ad : Nat → Nat) (w : xW) : (xw D ad w).length = w.length := by simp [xw]
def xty (D : xD) : List (ClassId × FieldType) := [(D.2.2 0, .int), (D.2.2 1, .boolean), (D.2.2 2, .char), (D.2.2 3, .object RX4)]
def tagTy (t : Nat) : FieldType := match t with
  | 0 => .int
  | 1 => .boolean
  | 2 => .char
  | _ => .object RX4
theorem xty_get (D : xD) {t : Nat} (h : t < 4) : (xty D)[t]? = some (D.2.2 t, tagTy t) := by
  match t, h with
  | 0, _ => rfl
  | 1, _ => rfl
  | 2, _ => rfl
  | 3, _ => rfl
/-- the addresses of n cells: apart, and of a kind -/
def xap (A : Nat → Prop) (ad : Nat → Nat) (n : Nat) : Prop := (∀ i j, i < n → j < n → ad i = ad j → i = j) ∧ ∀ i, i < n → A (ad i)
theorem xap_D {A : Nat → Prop} {ad : Nat → Nat} {w : xW} (D : xD) (h : xap A ad w.length) : va_D A (xw D ad w) := by
  refine ⟨fun i j p q hi hj e => ?_, fun k q hk => ?_⟩
  · rw [xw_get] at hi hj
    cases h1 : w[i]? with
    | none => rw [h1] at hi; cases hi
    | some c1 =>
      cases h2 : w[j]? with
      | none => rw [h2] at hj; cases hj
      | some c2 =>
        rw [h1] at hi; rw [h2] at hj
        cases hi; cases hj
        exact h.1 i j (List.getElem?_eq_some_iff.mp h1).1 (List.getElem?_eq_some_iff.mp h2).1 e
  · rw [xw_get] at hk
    cases h1 : w[k]? with
    | none => rw [h1] at hk; cases hk
    | some c1 =>
      rw [h1] at hk; cases hk
      exact h.2 k (List.getElem?_eq_some_iff.mp h1).1
/-- the nest mates' words, which no word list carries -/
def xNestM : List (String × Nat × MethodName × String) := [(RX6, 9, yX4_init, RX6), (RX4, 25, yX3_init, RX6), (RX4, 32, yX5_init, RX6), (RX4, 39, yX1_init, RX6), (RX4, 46, yX0_init, RX6), (RX6, 25, yX2_init, RX6), (RX4, 159, yX6_hold, RX6)]
def xKn (D : xD) (U : State) : Prop := va_K (D.1, D.2.1) classes (xty D) U ∧ (∀ q ∈ xNestM, va_Nw (.methodLinkNest q.1 q.2.1 q.2.2.1 q.2.2.2) U) ∧ va_Nw (.fieldLinkNest RX4 9 RX6 "FIRST_SETTINGS" "[I" RX6) U
theorem xKn.warm {D : xD} {s U : State} (hW : s.WarmedH U.vm) (h : xKn D s) : xKn D U := ⟨va_K.moved hW.alike h.1, fun q hq => va_Nw.warmM hW (h.2.1 q hq), va_Nw.warmF hW h.2.2⟩
theorem xKn.calling {D : xD} {U : State} (h : xKn D U) (g : JFrame) (mk : MethodId) (a : Array Value) : xKn D (U.calling g mk a) := ⟨va_K.moved (u := U) (U := U.calling g mk a) (Vm.Alike.refl U.vm) h.1, fun q hq => va_Nw.same rfl rfl (h.2.1 q hq), va_Nw.same rfl rfl h.2.2⟩
/-! locals -/
def lvp (ad : Nat → Nat) : Nat → xL → List (Nat × Value)
  | _, [] => []
  | k, none :: t => lvp ad (k + 1) t
  | k, some v :: t => (k, xv ad v) :: lvp ad (k + 1) t
theorem lvp_mem {ad : Nat → Nat} : ∀ (L : xL) (k i : Nat) (v : Value), (i, v) ∈ lvp ad k L ↔ ∃ (j : Nat) (u : Value), i = k + j ∧ L[j]? = some (some u) ∧ v = xv ad u
  | [], k, i, v => by simp [lvp]
  | none :: t, k, i, v => by
    rw [lvp, lvp_mem t]
    constructor
    · rintro ⟨j, u, h1, h2, h3⟩
      exact ⟨j + 1, u, by omega, by simpa using h2, h3⟩
    · rintro ⟨j, u, h1, h2, h3⟩
      cases j with
      | zero => simp at h2
      | succ j => exact ⟨j, u, by omega, by simpa using h2, h3⟩
  | some w :: t, k, i, v => by
    rw [lvp, List.mem_cons, lvp_mem t]
    constructor
    · rintro (h | ⟨j, u, h1, h2, h3⟩)
      · cases h
        exact ⟨0, w, by omega, by simp, rfl⟩
      · exact ⟨j + 1, u, by omega, by simpa using h2, h3⟩
    · rintro ⟨j, u, h1, h2, h3⟩
      cases j with
      | zero => simp at h2; subst h2; subst h3; exact Or.inl (by simp [h1])
      | succ j => exact Or.inr ⟨j, u, by omega, by simpa using h2, h3⟩
theorem lvp_at {ad : Nat → Nat} {ls : Array Slot} {nL : Nat} {L : xL} (h : lv_has ls nL (lvp ad 0 L)) {i : Nat} {v : Value} (hi : L[i]? = some (some v)) : ls[i]? = some (.val (xv ad v)) :=
  h.2.2 (i, xv ad v) ((lvp_mem L 0 i _).mpr ⟨i, v, by omega, hi, rfl⟩)
def xkill (L : xL) (i : Nat) : xL := match i with
  | 0 => L
  | j + 1 => match L[j]? with
    | some (some (.long _)) => L.set j none
    | _ => L
def xst1 (L : xL) (i : Nat) (v : Value) : xL := (xkill L i).set i (some v)
def xst2 (L : xL) (i : Nat) (v : Value) : xL := ((xkill L i).set i (some v)).set (i + 1) none
theorem xkill_len (L : xL) (i : Nat) : (xkill L i).length = L.length := by
  unfold xkill
  split
  · rfl
  · split <;> simp
theorem xst1_len (L : xL) (i : Nat) (v : Value) : (xst1 L i v).length = L.length := by simp [xst1, xkill_len]
theorem xst2_len (L : xL) (i : Nat) (v : Value) : (xst2 L i v).length = L.length := by simp [xst2, xkill_len]
/-- no long of L stands ahead of place i (floats and doubles are none of ours) -/
def xno (L : xL) : Prop := ∀ (j : Nat) (v : Value), L[j]? = some (some v) → v.category = 2 → ∃ y, v = .long y
theorem xkill_get {L : xL} {i j : Nat} {v : Value} (h : (xkill L i)[j]? = some (some v)) : L[j]? = some (some v) ∧ ¬ (j + 1 = i ∧ ∃ y, v = .long y) := by
  cases i with
  | zero => exact ⟨h, fun q => by omega⟩
  | succ i =>
    unfold xkill at h
    dsimp only at h
    split at h
    · rename_i y hy
      rw [List.getElem?_set] at h
      split at h
      · split at h <;> cases h
      · rename_i hne
        exact ⟨h, fun q => hne (by omega)⟩
    · rename_i hno
      refine ⟨h, fun q => ?_⟩
      obtain ⟨q1, y, rfl⟩ := q
      have : j = i := by omega
      subst this
      exact hno y h
theorem lvp_st1 {ad : Nat → Nat} {ls : Array Slot} {nL i : Nat} {L : xL} {v : Value} (hn : xno L) (h : lv_has ls nL ((i, xv ad v) :: (lvp ad 0 L).filter (fun q => !(q.1 == i) && !(q.1 + 1 == i && q.2.category == 2)))) : lv_has ls nL (lvp ad 0 (xst1 L i v)) := by
  refine ⟨h.1, h.2.1, fun q hq => h.2.2 q ?_⟩
  obtain ⟨a, b⟩ := q
  obtain ⟨j, u, h1, h2, h3⟩ := (lvp_mem _ _ _ _).mp hq
  have hj : a = j := by omega
  subst hj
  unfold xst1 at h2
  rw [List.getElem?_set] at h2
  split at h2
  · rename_i e
    subst e
    split at h2
    · cases h2
      rw [h3]
      exact List.mem_cons_self
    · cases h2
  · rename_i hne
    obtain ⟨g1, g2⟩ := xkill_get h2
    refine List.mem_cons_of_mem _ (List.mem_filter.mpr ⟨(lvp_mem _ _ _ _).mpr ⟨a, u, by omega, g1, h3⟩, ?_⟩)
    have e1 : (a == i) = false := by simpa using fun q => hne q.symm
    have e2 : (a + 1 == i && b.category == 2) = false := by
      rw [h3, xv_cat]
      simp only [Bool.and_eq_false_iff, beq_eq_false_iff_ne]
      by_cases z : a + 1 = i
      · refine Or.inr fun z2 => g2 ⟨z, hn a u g1 z2⟩
      · exact Or.inl z
    simp only [e1, e2]; rfl
theorem lvp_st2 {ad : Nat → Nat} {ls : Array Slot} {nL i : Nat} {L : xL} {v : Value} (hn : xno L) (h : lv_has ls nL ((i, xv ad v) :: (lvp ad 0 L).filter (fun q => !(q.1 == i) && (!(q.1 == i + 1) && !(q.1 + 1 == i && q.2.category == 2))))) : lv_has ls nL (lvp ad 0 (xst2 L i v)) := by
  refine ⟨h.1, h.2.1, fun q hq => h.2.2 q ?_⟩
  obtain ⟨a, b⟩ := q
  obtain ⟨j, u, h1, h2, h3⟩ := (lvp_mem _ _ _ _).mp hq
  have hj : a = j := by omega
  subst hj
  unfold xst2 at h2
  rw [List.getElem?_set] at h2
  split at h2
  · split at h2 <;> cases h2
  · rename_i hne2
    rw [List.getElem?_set] at h2
    split at h2
    · rename_i e
      subst e
      split at h2
      · cases h2
        rw [h3]
        exact List.mem_cons_self
      · cases h2
    · rename_i hne
      obtain ⟨g1, g2⟩ := xkill_get h2
      refine List.mem_cons_of_mem _ (List.mem_filter.mpr ⟨(lvp_mem _ _ _ _).mpr ⟨a, u, by omega, g1, h3⟩, ?_⟩)
      have e1 : (a == i) = false := by simpa using fun q => hne q.symm
      have e3 : (a == i + 1) = false := by simpa using fun q => hne2 q.symm
      have e2 : (a + 1 == i && b.category == 2) = false := by
        rw [h3, xv_cat]
        simp only [Bool.and_eq_false_iff, beq_eq_false_iff_ne]
        by_cases z : a + 1 = i
        · refine Or.inr fun z2 => g2 ⟨z, hn a u g1 z2⟩
        · exact Or.inl z
      simp only [e1, e2, e3]; rfl
theorem xno_set {L : xL} (h : xno L) (i : Nat) {v : Value} (hv : v.category = 2 → ∃ y, v = .long y) : xno (L.set i (some v)) := by
  intro j u hj hc
  rw [List.getElem?_set] at hj
  split at hj
  · split at hj
    · cases hj; exact hv hc
    · cases hj
  · exact h j u hj hc
theorem xno_none {L : xL} (h : xno L) (i : Nat) : xno (L.set i none) := by
  intro j u hj hc
  rw [List.getElem?_set] at hj
  split at hj
  · split at hj <;> cases hj
  · exact h j u hj hc
theorem xno_kill {L : xL} (h : xno L) (i : Nat) : xno (xkill L i) := fun _ _ hj hc => h _ _ (xkill_get hj).1 hc
theorem xno_st1 {L : xL} (h : xno L) (i : Nat) {v : Value} (hv : v.category = 2 → ∃ y, v = .long y) : xno (xst1 L i v) := xno_set (xno_kill h i) i hv
theorem xno_st2 {L : xL} (h : xno L) (i : Nat) {v : Value} (hv : v.category = 2 → ∃ y, v = .long y) : xno (xst2 L i v) := xno_none (xno_set (xno_kill h i) i hv) _
/-! the walk's judgement -/
abbrev En : Type _ := Program × Launch × Jvm.Env × Room × State × MethodId × Array Value × List Frame × Method × Code × (Array Value → State → Outcome → State → Prop) × (State → Prop) × (Nat × Nat) × (Nat → Prop) × Nat × xD × (Nat → Nat)
/-- from pc with locals L, stack st, state S the method comes to its end as it is due; pc 100000 stands for 'it has returned st.head?' -/
def Gd {σ : Type} (E : En) (toW : σ → xW) (pc : Nat) (L : xL) (st : List Value) (S : σ) : Prop :=
  match E with
  | (p, l, e, R, s, m, args, below, meth, c, Qc, Q, cs, A, nL, D, ad) =>
    ∀ (H : Heap) (locs : List Loc), va_P (D.1, D.2.1) classes (xw D ad (toW S)) H → xap A ad (toW S).length → va_S A s.heap H locs →
      (pc = 100000 → ∀ t : State, t.heap = H → s.WarmedH t.vm → Qc args s (.returned st.head?) t) ∧
      (pc ≠ 100000 → L.length = nL → xno L → ∀ ls : Array Slot, lv_has ls nL (lvp ad 0 L) → W p l e R s m args below meth c H locs cs.1 cs.2 Q (F0 m pc ls (st.map (xv ad))))
def Fx (E : En) (own : String) (cc : ByteArray) (maxL d : Nat) : Prop :=
  match E with
  | (p, l, e, R, s, m, args, below, meth, c, Qc, Q, cs, A, nL, D, ad) =>
    p.tables.exec = Jvm.exec ∧ c.code = cc ∧ c.maxLocals = nL ∧ nL = maxL ∧ s.vm.findClass own = some m.cls ∧ (∀ w ∈ WS, w.before args s = true) ∧ meth.locks = false ∧ xKn D s ∧ (∀ q, s.heap.size ≤ q → A q) ∧ cs.1 ≤ R.cells ∧ cs.2 ≤ R.slots ∧ d ≤ R.frames ∧ 36 * d ≤ R.locals
def Fr (E : En) (ret : Option FieldType) : Prop :=
  match E with
  | (p, l, e, R, s, m, args, below, meth, c, Qc, Q, cs, A, nL, D, ad) => meth.sig.returnType = ret ∧ Q = MQ below Qc args s cs.1 cs.2 A
abbrev Kt (σ : Type) : Type := Nat → xL → List Value → σ → Prop
abbrev Op (σ : Type) : Type := Kt σ → Nat → xL → List Value → σ → Prop
/-- an operation tells rightly what the instruction at pc does -/
def OpOk {σ : Type} (E : En) (toW : σ → xW) (pc : Nat) (op : Op σ) : Prop :=
  ∀ (K : Kt σ) (L : xL) (st : List Value) (S : σ), op K pc L st S → (∀ pc' L' st' S', K pc' L' st' S' → Gd E toW pc' L' st' S') → Gd E toW pc L st S
