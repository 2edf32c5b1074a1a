/-! ===== constructors: a world that grows ===== -/
def rl (n : Nat) : Value → Prop
  | .ref k => k < n
  | _ => True
def cok (n : Nat) : xCell → Prop
  | .inl _ => True
  | .inr (.inl (_, fs)) => ∀ v ∈ fs, rl n v
  | .inr (.inr (_, f)) => ∀ j k, f j = some k → k < n
def wok (w : xW) : Prop := ∀ c ∈ w, cok w.length c
def rlL (n : Nat) (L : xL) : Prop := ∀ v, some v ∈ L → rl n v
theorem xv_ext {n : Nat} {ad ad' : Nat → Nat} (h : ∀ i, i < n → ad' i = ad i) {v : Value} (hv : rl n v) : xv ad' v = xv ad v := by
  cases v <;> first | rfl | exact congrArg Value.ref (h _ hv)
theorem xc_ext {n : Nat} {ad ad' : Nat → Nat} (h : ∀ i, i < n → ad' i = ad i) (D : xD) {c : xCell} (hc : cok n c) : xc D ad' c = xc D ad c := by
  match c, hc with
  | .inl (t, k, f), _ => rfl
  | .inr (.inl (ci, fs)), hc =>
    show Sum.inr (ci, fs.map (xv ad')) = Sum.inr (ci, fs.map (xv ad))
    rw [List.map_congr_left (fun v hv => xv_ext h (hc v hv))]
  | .inr (.inr (k, f)), hc =>
    have e : (fun j => (f j).map ad') = (fun j => (f j).map ad) := by
      funext j
      cases q : f j with
      | none => rfl
      | some i => exact congrArg some (h i (hc j i q))
    simp only [xc]
    rw [e]
theorem xw_ext {ad ad' : Nat → Nat} (D : xD) {w : xW} (h : ∀ i, i < w.length → ad' i = ad i) (hw : wok w) : xw D ad' w = xw D ad w := by
  apply List.ext_getElem?
  intro i
  rw [xw_get, xw_get]
  cases q : w[i]? with
  | none => rfl
  | some c =>
    have hi := (List.getElem?_eq_some_iff.mp q).1
    have hc := hw c (List.mem_of_getElem? q)
    show some (ad' i, xc D ad' c) = some (ad i, xc D ad c)
    rw [h i hi, xc_ext h D hc]
theorem lvp_ext {n : Nat} {ad ad' : Nat → Nat} (h : ∀ i, i < n → ad' i = ad i) : ∀ (L : xL) (k : Nat), rlL n L → lvp ad' k L = lvp ad k L
  | [], _, _ => rfl
  | none :: t, k, hL => lvp_ext h t (k + 1) (fun v hv => hL v (List.mem_cons_of_mem _ hv))
  | some v :: t, k, hL => by
    rw [lvp, lvp, xv_ext h (hL v List.mem_cons_self), lvp_ext h t (k + 1) (fun v hv => hL v (List.mem_cons_of_mem _ hv))]
theorem st_ext {n : Nat} {ad ad' : Nat → Nat} (h : ∀ i, i < n → ad' i = ad i) {st : List Value} (hs : ∀ v ∈ st, rl n v) : st.map (xv ad') = st.map (xv ad) := List.map_congr_left (fun v hv => xv_ext h (hs v hv))
theorem xw_app (D : xD) (ad : Nat → Nat) (w : xW) (c : xCell) : xw D ad (w ++ [c]) = xw D ad w ++ [(ad w.length, xc D ad c)] := by
  simp [xw, List.mapIdx_append]
theorem va_RA_inj {U : State} {a b : ClassId} {t : Nat} (ht : t < 3) (h : va_RA U a (tagTy t)) (g : va_RA U b (tagTy t)) : a = b := by
  rcases (show t = 0 ∨ t = 1 ∨ t = 2 by omega) with rfl | rfl | rfl
  · simp only [tagTy, va_RA] at h g
    rw [h] at g
    exact Option.some.inj g
  · simp only [tagTy, va_RA] at h g
    rw [h] at g
    exact Option.some.inj g
  · simp only [tagTy, va_RA] at h g
    rw [h] at g
    exact Option.some.inj g
theorem new_cell {t N : Nat} (ht : t < 3) (cA : ClassId) : vp_cell cA (N, .inl (fun _ => (0 : Int32))) = arrV cA N (fun _ => defaultValue (tagTy t)) := by
  match t, ht with
  | 0, _ => rfl
  | 1, _ => rfl
  | 2, _ => rfl
theorem new_bytes {t N : Nat} (ht : t < 3) (h : N ≤ 1000) : N * componentBytes (tagTy t) ≤ 536870912 := by
  have : componentBytes (tagTy t) ≤ 4 := by
    match t, ht with
    | 0, _ => decide
    | 1, _ => decide
    | 2, _ => decide
  have := Nat.mul_le_mul h this
  omega
/-- as Gd, but the world grows: for all places of its cells behind the first; n: the cells and slots that are used -/
def Gi (E : En) (n : Nat × Nat) (pc : Nat) (L : xL) (st : List Value) (w : xW) : Prop :=
  match E with
  | (p, l, e, R, s, m, args, below, meth, c, Qc, Q, cs, A, nL, D, ad0) =>
    ∀ (ad : Nat → Nat) (H : Heap) (locs : List Loc), ad 0 = ad0 0 → va_P (D.1, D.2.1) classes (xw D ad w) H → xap A ad w.length → va_S A s.heap H locs → L.length = nL → xno L → ∀ ls : Array Slot, lv_has ls nL (lvp ad 0 L) → W p l e R s m args below meth c H locs n.1 n.2 Q (F0 m pc ls (st.map (xv ad)))
def rmOk (E : En) (n : Nat × Nat) : Prop := match E with
  | (p, l, e, R, s, m, args, below, meth, c, Qc, Q, cs, A, nL, D, ad0) => n.1 ≤ R.cells ∧ n.2 ≤ R.slots
section
variable {E : En} {own : String} {cc : ByteArray} {maxL d pc : Nat} {n : Nat × Nat} {L : xL} {st : List Value} {w : xW}
theorem gi_aload (F : Fx E own cc maxL d) {i : Fin 4} {k j : Nat} (hd : decode cc pc = .ok (.aload_n i, 1)) (hik : i.val = k) (hi : L[k]? = some (some (.ref j))) (kk : Gi E n (pc + 1) L (.ref j :: st) w) : Gi E n pc L st w := by
  obtain ⟨p, l, e, R, s, m, args, below, meth, c, Qc, Q, cs, A, nL, D, ad0⟩ := E
  intro ad H locs h0 hP hap hS hL hn ls hl
  exact lv_aload_n F.1 F.2.1 hd hik (lvp_at hl hi) (kk ad H locs h0 hP hap hS hL hn ls hl)
theorem gi_newa (F : Fx E own cc maxL d) {t N : Nat} {k : Int32} {atype : ArrayType} (ht : t < 3) (hty : newarray.typeOf atype = tagTy t) (hk : ¬ k < 0) (hN : k.toNatClampNeg = N) (hN2 : N ≤ 1000) (hw : wsHas [.arrayClass (newarray.typeOf atype)] = true) (hd : decode cc pc = .ok (.newarray atype, 2)) (hwk : wok w) (hw0 : 0 < w.length) (hLr : rlL w.length L) (hsr : ∀ v ∈ st, rl w.length v) (hrm : rmOk E (n.1 + 1, n.2 + N)) (kk : Gi E (n.1 + 1, n.2 + N) (pc + 2) L (.ref w.length :: st) (w ++ [.inl (t, N, fun _ => 0)])) : Gi E n pc L (.int k :: st) w := by
  obtain ⟨p, l, e, R, s, m, args, below, meth, c, Qc, Q, cs, A, nL, D, ad0⟩ := E
  obtain ⟨h1, h2, h3, h4, h5, h6, h7, h8, h9, h10⟩ := id F
  intro ad H locs h0 hP hap hS hL hn ls hl
  refine va_newa (ty := tagTy t) h1 h2 (h6 _ (wsHas_mem hw (by simp))) hty h8.1 hP (xap_D D hap) hS h9 (a0 := (N, .inl (fun _ => (0 : Int32)))) (new_cell ht) hk hN (new_bytes ht hN2) hrm.1 hrm.2 hd (fun q cA H1 hK1 hP1 hD1 hS1 => ?_)
  have hcA : cA = D.2.2 t := by
    have a1 := (hK1.2 (xty D).length (cA, tagTy t) (by simp)).2
    have a2 := (h8.1.2 t (D.2.2 t, tagTy t) (xty_get D (by omega))).2
    exact va_RA_inj ht a1 a2
  subst hcA
  have hext : ∀ i, i < w.length → (fun i => if i = w.length then q else ad i) i = ad i := fun i hi => if_neg (by omega)
  have hq : (fun i => if i = w.length then q else ad i) w.length = q := if_pos rfl
  generalize (fun i => if i = w.length then q else ad i) = ad' at hext hq
  have hw' : xw D ad' (w ++ [.inl (t, N, fun _ => 0)]) = xw D ad w ++ [(q, .inl (D.2.2 t, N, .inl (fun _ => 0)))] := by
    rw [xw_app, xw_ext D hext hwk, hq]
    rfl
  have hl' : lv_has ls nL (lvp ad' 0 L) := by rw [lvp_ext hext L 0 hLr]; exact hl
  have hlen : (xw D ad w).length = w.length := xw_len D ad w
  have hap' : xap A ad' (w ++ [(.inl (t, N, fun _ => 0) : xCell)]).length := by
    rw [← hw'] at hD1
    have gg : ∀ i, i < (w ++ [(.inl (t, N, fun _ => 0) : xCell)]).length → ∃ c, (xw D ad' (w ++ [.inl (t, N, fun _ => 0)]))[i]? = some (ad' i, c) := fun i hi => by
      rw [xw_get, List.getElem?_eq_getElem hi]
      exact ⟨_, rfl⟩
    refine ⟨fun i j hi hj hij => ?_, fun i hi => ?_⟩
    · obtain ⟨c1, g1⟩ := gg i hi
      obtain ⟨c2, g2⟩ := gg j hj
      exact hD1.1 i j _ _ g1 g2 hij
    · obtain ⟨c1, g1⟩ := gg i hi
      exact hD1.2 i _ g1
  have hres := kk ad' H1 locs ((hext 0 hw0).trans h0) (by rw [hw']; exact hP1) hap' hS1 hL hn ls hl'
  rw [List.map_cons, st_ext hext hsr] at hres
  have e1 : xv ad' (.ref w.length) = .ref q := congrArg Value.ref hq
  rw [e1] at hres
  exact hres
end
