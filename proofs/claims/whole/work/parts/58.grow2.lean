/-! ===== the static FIRST_SETTINGS, calls of constructors, the row of stations ===== -/
def ZFd (D : xD) (z : Nat) (A : Nat → Prop) (U : State) : Prop := va_Z RX6 "FIRST_SETTINGS" "[I" (.ref z) A U U.heap ∧ va_Nw (.castable "[I" "java/lang/Cloneable") U ∧ ¬ A z ∧ va_at (D.1, D.2.1) classes (z, .inl (D.2.2 0, 19, .inl firstS)) U.heap
def ZF (E : En) : Prop := match E with
  | (p, l, e, R, s, m, args, below, meth, c, Qc, Q, cs, A, nL, D, ad0) => ∃ z, ZFd D z A s
/-- a constructor's contract that reads the static -/
def ConF (y : MethodName) (cc : ByteArray) (maxL d : Nat) (k : Nat × Nat) (c0 : xCell) (w1 : xW) : Prop := ∀ (l : Launch) (D : xD) (z a sz : Nat), a < sz → Met l y (.code y cc maxL none :: WS) { frames := d, cells := k.1, slots := k.2, locals := 36 * d } (va_Pc [.ref a] (fun U => (U.heap.size = sz ∧ va_P (D.1, D.2.1) classes (xw D (fun _ => a) [c0]) U.heap ∧ xKn D U) ∧ ZFd D z (newA a sz) U)) (fun _ st oc t => oc = .returned none ∧ va_F (newA a sz) st t ∧ ∃ ad : Nat → Nat, ad 0 = a ∧ va_P (D.1, D.2.1) classes (xw D ad w1) t.heap ∧ xap (newA a sz) ad w1.length) k.1 k.2 (newA a sz)
theorem ConF.of {y : MethodName} {cc : ByteArray} {maxL d : Nat} {k : Nat × Nat} {c0 : xCell} {w1 : xW} (hy : plainName y.cls = true) (hi : y.name = "<init>") (hm : 1 ≤ maxL) (hc0 : cok 0 c0)
    (body : ∀ E : En, Fx E y.cls cc maxL d → Fr E none → inIt E → csIs E k → (∀ k' n : Nat × Nat, n.1 + k'.1 ≤ k.1 → n.2 + k'.2 ≤ k.2 → rmOf E k' n) → GiEnd E w1 → ZF E → Gi E (0, 0) 0 (xarg [.ref 0] maxL) [] [c0]) : ConF y cc maxL d k c0 w1 := by
  intro l D z a sz ha
  refine Met.ofW (cc := cc) (maxL := maxL) (ret := none) hy rfl ?_
  intro p e s m args below meth c s₁ B hml hv
  obtain ⟨rfl, ⟨hsz, hP, hK⟩, hZ⟩ := hv
  have hts := atoms_spec (ws := .code y cc maxL none :: WS) B.pre
  have hown : s.vm.findClass y.cls = some m.cls := findClass_of_methodNamed B.named
  have hin : meth.name = "<init>" := (name_of_methodNamed B.named B.method).1.trans hi
  subst hsz
  have hF : Fx (p, l, e, (headSpec (.code y cc maxL none :: WS) { frames := d, cells := k.1, slots := k.2, locals := 36 * d }).room, s, m, ([.ref a] : List Value).toArray, below, meth, c, (fun _ st oc t => oc = .returned none ∧ va_F (newA a s.heap.size) st t ∧ ∃ ad : Nat → Nat, ad 0 = a ∧ va_P (D.1, D.2.1) classes (xw D ad w1) t.heap ∧ xap (newA a s.heap.size) ad w1.length), MQ below (fun _ st oc t => oc = .returned none ∧ va_F (newA a s.heap.size) st t ∧ ∃ ad : Nat → Nat, ad 0 = a ∧ va_P (D.1, D.2.1) classes (xw D ad w1) t.heap ∧ xap (newA a s.heap.size) ad w1.length) ([.ref a] : List Value).toArray s k.1 k.2 (newA a s.heap.size), k, newA a s.heap.size, maxL, D, (fun _ => a)) y.cls cc maxL d :=
    ⟨B.exec, B.bytes, hml, rfl, hown, fun w hw => hts w (List.mem_cons_of_mem _ hw), B.notSynchronized, hK, fun q hq => Or.inr hq, Nat.le_refl _, Nat.le_refl _, Nat.le_refl _, Nat.le_refl _⟩
  have h := body _ hF ⟨B.returns, rfl⟩ hin rfl (fun k' n h1 h2 => ⟨h1, h2⟩) (fun ad H locs h0 hP' hap hS t ht _ => ⟨rfl, hS.F ht, ad, h0, by rw [ht]; exact hP', hap⟩) ⟨z, hZ⟩
  have hl := lv_entry ([.ref a] : List Value) (n := maxL) (by simpa [lg_sl, Value.category] using hm)
  rw [lg_entry_eq]
  refine h (fun _ => a) s.heap [] rfl hP ⟨fun i j hi hj _ => ?_, fun i _ => Or.inl rfl⟩ va_S.rf (by simp [xarg, xargs]; omega) (xno_args [.ref 0] (by simp [xplain]) _) _ ?_
  · have h1 : i < 1 := hi
    have h2 : j < 1 := hj
    omega
  · rw [show lvp (fun _ => a) 0 (xarg [.ref 0] maxL) = lv_args 0 ([.ref a] : List Value) by rw [xarg, lvp_app, lvp_none, List.append_nil]; rfl]
    exact hl
theorem xw_one (D : xD) {ad : Nat → Nat} {w : xW} {c0 : xCell} (hc0 : cok 0 c0) {H : Heap} (hP : va_P (D.1, D.2.1) classes (xw D ad (w ++ [c0])) H) : va_P (D.1, D.2.1) classes (xw D (fun _ => ad w.length) [c0]) H := by
  intro k q hq
  have hk : k < 1 := by have := (List.getElem?_eq_some_iff.mp hq).1; rw [xw_len] at this; exact this
  rw [show k = 0 by omega] at hq
  cases hq
  rw [xw_app] at hP
  have := hP w.length (ad w.length, xc D ad c0) (by rw [List.getElem?_append_right (by rw [xw_len]; omega), xw_len, Nat.sub_self]; rfl)
  rw [xc_ext (n := 0) (ad := ad) (ad' := fun _ => ad w.length) (fun i hi => absurd hi (Nat.not_lt_zero i)) D hc0]
  exact this
section
variable {E : En} {own : String} {cc : ByteArray} {maxL d pc : Nat} {n : Nat × Nat} {L : xL} {st : List Value} {w : xW}
theorem PcOk_I (F : Fx E own cc maxL d) {c0 : xCell} (hc0 : cok 0 c0) : PcOk E (fun D a sz => va_Pc [.ref a] (fun U => U.heap.size = sz ∧ va_P (D.1, D.2.1) classes (xw D (fun _ => a) [c0]) U.heap ∧ xKn D U)) (w ++ [c0]) w.length := by
  obtain ⟨p, l, e, R, s, m, args, below, meth, c, Qc, Q, cs, A, nL, D, ad0⟩ := E
  refine ⟨fun a sz args U g mk q => ⟨q.1, q.2.1, q.2.2.1, q.2.2.2.calling g mk args⟩, fun ad H locs h0 hP hap hS U hU hW => ⟨rfl, by rw [hU], ?_, F.2.2.2.2.2.2.2.1.warm hW⟩⟩
  rw [hU]
  exact xw_one D hc0 hP
theorem PcOk_F (F : Fx E own cc maxL d) {c0 : xCell} (hc0 : cok 0 c0) (hZ : ZF E) : ∃ z, PcOk E (fun D a sz => va_Pc [.ref a] (fun U => (U.heap.size = sz ∧ va_P (D.1, D.2.1) classes (xw D (fun _ => a) [c0]) U.heap ∧ xKn D U) ∧ ZFd D z (newA a sz) U)) (w ++ [c0]) w.length := by
  obtain ⟨p, l, e, R, s, m, args, below, meth, c, Qc, Q, cs, A, nL, D, ad0⟩ := E
  obtain ⟨z, z1, z2, z3, z4⟩ := hZ
  refine ⟨z, fun a sz args U g mk q => ⟨q.1, ⟨q.2.1.1, q.2.1.2.1, q.2.1.2.2.calling g mk args⟩, va_Z.moved (u := U) (U := U.calling g mk args) (Vm.Alike.refl U.vm) q.2.2.1, va_Nw.same rfl rfl q.2.2.2.1, q.2.2.2.2⟩, fun ad H locs h0 hP hap hS U hU hW => ?_⟩
  have hA' : ∀ q, newA (ad w.length) H.size q → A q := fun q hq => by
    rcases hq with rfl | hq
    · exact hap.2 _ (by simp)
    · exact F.2.2.2.2.2.2.2.2.1 q (Nat.le_trans hS.1 hq)
  refine ⟨rfl, ⟨by rw [hU], ?_, F.2.2.2.2.2.2.2.1.warm hW⟩, ?_, va_Nw.warmC hW z2, fun q => z3 (hA' _ q), ?_⟩
  · rw [hU]
    exact xw_one D hc0 hP
  · rw [hU]
    exact va_Z_sub hS hA' hW.alike z1
  · rw [hU]
    exact va_at_old (q := (z, _)) hS z3 z4
theorem gi_call (F : Fx E own cc maxL d) {ix : Nat} {host : String} {y : MethodName} {ycc : ByteArray} {ymL dy : Nat} {k : Nat × Nat} {c0 : xCell} {w1 : xW} (hM : ConI y ycc ymL dy k c0 w1) (hc0 : cok 0 c0) (hck : cokI own ix host y ycc ymL = true) (hdd : dy + 1 ≤ d) (hd : decode cc pc = .ok (.invokespecial ix, 3)) (hwk : wok w) (hw0 : 0 < w.length) (hLr : rlL w.length L) (hsr : ∀ v ∈ st, rl w.length v ∨ v = .ref w.length) (hs4 : st.length ≤ 4) (hw1 : 0 < w1.length) (hrm : rmOf E k n)
    (kk : Gi E (n.1 + k.1, n.2 + k.2) (pc + 3) L st (w ++ sh w.length w1)) : Gi E n pc L (.ref w.length :: st) (w ++ [c0]) :=
  gi_run F hc0 hM (PcOk_I F hc0) hck hdd hd hwk hw0 hLr hsr hs4 hw1 hrm kk
theorem gi_callF (F : Fx E own cc maxL d) (hZ : ZF E) {ix : Nat} {host : String} {y : MethodName} {ycc : ByteArray} {ymL dy : Nat} {k : Nat × Nat} {c0 : xCell} {w1 : xW} (hM : ConF y ycc ymL dy k c0 w1) (hc0 : cok 0 c0) (hck : cokI own ix host y ycc ymL = true) (hdd : dy + 1 ≤ d) (hd : decode cc pc = .ok (.invokespecial ix, 3)) (hwk : wok w) (hw0 : 0 < w.length) (hLr : rlL w.length L) (hsr : ∀ v ∈ st, rl w.length v ∨ v = .ref w.length) (hs4 : st.length ≤ 4) (hw1 : 0 < w1.length) (hrm : rmOf E k n)
    (kk : Gi E (n.1 + k.1, n.2 + k.2) (pc + 3) L st (w ++ sh w.length w1)) : Gi E n pc L (.ref w.length :: st) (w ++ [c0]) := by
  obtain ⟨z, hz⟩ := PcOk_F (w := w) F hc0 hZ
  exact gi_run F hc0 (fun l D => hM l D z) hz hck hdd hd hwk hw0 hLr hsr hs4 hw1 hrm kk
/-- FIRST_SETTINGS.clone(), and its cast -/
theorem gi_first (F : Fx E RX4 cc maxL d) (hZ : ZF E) (h1d : 1 ≤ d) (hw : wsHas [.methodLink RX4 13 ⟨"[I", "clone", "()Ljava/lang/Object;"⟩, .sameMethod "[I" "java/lang/Object" "clone" "()Ljava/lang/Object;", .native ⟨"java/lang/Object", "clone", "()Ljava/lang/Object;"⟩, .instanceMethod ⟨"java/lang/Object", "clone", "()Ljava/lang/Object;"⟩, .selects "[I" ⟨"[I", "clone", "()Ljava/lang/Object;"⟩ ⟨"java/lang/Object", "clone", "()Ljava/lang/Object;"⟩, .classLink RX4 14 "[I"] = true) (hd1 : decode cc pc = .ok (.getstatic 9, 3)) (hd2 : decode cc (pc + 3) = .ok (.invokevirtual 13, 3)) (hd3 : decode cc (pc + 3 + 3) = .ok (.checkcast 14, 3)) (hwk : wok w) (hw0 : 0 < w.length) (hLr : rlL w.length L) (hsr : ∀ v ∈ st, rl w.length v) (hs4 : st.length ≤ 4) (hrm : rmOf E (1, 19) n)
    (kk : Gi E (n.1 + 1, n.2 + 19) (pc + 3 + 3 + 3) L (.ref w.length :: st) (w ++ [.inl (0, 19, firstS)])) : Gi E n pc L st w := by
  obtain ⟨p, l, e, R, s, m, args, below, meth, c, Qc, Q, cs, A, nL, D, ad0⟩ := E
  obtain ⟨h1, h2, h3, h4, h5, h6, h7, h8, h9, h10, h11, h12, h13⟩ := id F
  obtain ⟨z, z1, z2, z3, z4⟩ := hZ
  have hz := fun w (hh : w ∈ _) => wsHas_mem hw hh
  intro ad H locs h0 hP hap hS hL hn ls hl
  refine va_getsN h1 h2 z1 hS h5 (va_Nw.use rfl h8.2.2) (fun _ h => h) hd1 ?_
  have hcell : va_at (D.1, D.2.1) classes (z, .inl (D.2.2 0, 19, .inl firstS)) H := va_at_old (q := (z, _)) hS z3 z4
  have hlen : (xw D ad w).length = w.length := xw_len D ad w
  have hP' : va_P (D.1, D.2.1) classes (xw D ad w ++ [(z, .inl (D.2.2 0, 19, .inl firstS))]) H := va_P.app hP (fun k q hq => by
    have hk : k < 1 := (List.getElem?_eq_some_iff.mp hq).1
    rw [show k = 0 by omega] at hq
    cases hq
    exact hcell)
  have hD0 := xap_D (w := w) D hap
  have hD' : va_D (fun q => A q ∨ q = z) (xw D ad w ++ [(z, .inl (D.2.2 0, 19, .inl firstS))]) := va_D.app (hD0.weaken (fun _ _ _ h => Or.inl h)) ⟨fun i j p q hi hj _ => by
      have hi : i < 1 := (List.getElem?_eq_some_iff.mp hi).1
      have hj : j < 1 := (List.getElem?_eq_some_iff.mp hj).1
      omega, fun k q hq => by
      have hk : k < 1 := (List.getElem?_eq_some_iff.mp hq).1
      rw [show k = 0 by omega] at hq
      cases hq
      exact Or.inr rfl⟩ (fun i j x y hx hy hxy => by
      have hj : j < 1 := (List.getElem?_eq_some_iff.mp hy).1
      rw [show j = 0 by omega] at hy
      cases hy
      exact z3 (hxy ▸ hD0.2 i x hx))
  have hS' : va_S (fun q => A q ∨ q = z) s.heap H locs := ⟨hS.1, fun q g1 g2 => hS.2.1 q g1 (fun g => g2 (Or.inl g)), fun q hq => Or.inl (hS.2.2 q hq)⟩
  have hcat := cat_sum8 (ad := ad) hs4
  have hA'' : ∀ q, s.heap.size ≤ q → (fun q => A q ∨ q = z) q := fun q hq => Or.inl (h9 q hq)
  have hat : (xw D ad w ++ [(z, (.inl (D.2.2 0, 19, .inl firstS) : va_E))])[w.length]? = some (z, .inl (D.2.2 0, 19, .inl firstS)) := by rw [List.getElem?_append_right (by omega), hlen, Nat.sub_self]; rfl
  have hnm := va_nm_int (h8.1.2 0 (D.2.2 0, .int) rfl).2
  refine va_clone (D := (D.1, D.2.1)) (x := (19, .inl firstS)) (ty := .int) (cA := D.2.2 0) h1 h2 (h3.trans hl.1.symm) h5 (h6 _ (hz _ (by simp))) (h6 _ (hz _ (by simp))) (h6 _ (hz _ (by simp))) (h6 _ (hz _ (by simp))) (h6 _ (hz _ (by simp))) z2 h8.1 hP' hD' hS' hA'' w.length 0 hat rfl hnm (va_fit (F := fun j => .int (firstS j)) (fun _ _ => rfl)) (by omega) (by omega) hrm.1 hrm.2 hd2 (fun q H1 hK1 hP1 hD1 hS1 => ?_)
  have hat1 : (xw D ad w ++ [(z, (.inl (D.2.2 0, 19, .inl firstS) : va_E))] ++ [(q, (.inl (D.2.2 0, 19, .inl firstS) : va_E))])[w.length]? = some (z, .inl (D.2.2 0, 19, .inl firstS)) := by
    rw [List.getElem?_append_left (by simp [hlen])]
    exact hat
  have hat2 : (xw D ad w ++ [(z, (.inl (D.2.2 0, 19, .inl firstS) : va_E))] ++ [(q, (.inl (D.2.2 0, 19, .inl firstS) : va_E))])[w.length + 1]? = some (q, .inl (D.2.2 0, 19, .inl firstS)) := by
    rw [List.getElem?_append_right (by simp [hlen])]
    simp [hlen]
  have hat0 : ∀ (i : Nat) (x : Nat × va_E), (xw D ad w)[i]? = some x → (xw D ad w ++ [(z, (.inl (D.2.2 0, 19, .inl firstS) : va_E))] ++ [(q, (.inl (D.2.2 0, 19, .inl firstS) : va_E))])[i]? = some x := fun i x hi => by
    have := (List.getElem?_eq_some_iff.mp hi).1
    rw [List.append_assoc, List.getElem?_append_left this]
    exact hi
  refine va_castA (D := (D.1, D.2.1)) (cA := D.2.2 0) (x := (19, .inl firstS)) h1 h2 h5 (h6 _ (hz _ (by simp))) hP1 (w.length + 1) hat2 hnm hd3 ?_
  have hqz : ¬ q = z := fun g => by
    have := hD1.1 (w.length + 1) w.length _ _ hat2 hat1 g
    omega
  have hAq : A q := (hD1.2 _ _ hat2).resolve_right hqz
  have hHz : H1[z]? = s.heap[z]? := by
    have a1 : H1[z]? = some (vp_cell (D.2.2 0) (19, .inl firstS)) := hP1 _ _ hat1
    have a2 : s.heap[z]? = some (vp_cell (D.2.2 0) (19, .inl firstS)) := z4
    rw [a1, a2]
  have hS2 : va_S A s.heap H1 locs := ⟨hS1.1, fun x g1 g2 => by
    by_cases hx : x = z
    · rw [hx]; exact hHz
    · exact hS1.2.1 x g1 (fun g => by
        rcases g with g | g
        · exact g2 g
        · exact hx g), hS.2.2⟩
  have hext : ∀ i, i < w.length → (fun i => if i = w.length then q else ad i) i = ad i := fun i hi => if_neg (by omega)
  have hq : (fun i => if i = w.length then q else ad i) w.length = q := if_pos rfl
  generalize (fun i => if i = w.length then q else ad i) = ad' at hext hq
  have hw' : xw D ad' (w ++ [.inl (0, 19, firstS)]) = xw D ad w ++ [(q, .inl (D.2.2 0, 19, .inl firstS))] := by
    rw [xw_app, xw_ext D hext hwk, hq]
    rfl
  have hl' : lv_has ls nL (lvp ad' 0 L) := by rw [lvp_ext hext L 0 hLr]; exact hl
  have hP2 : va_P (D.1, D.2.1) classes (xw D ad' (w ++ [.inl (0, 19, firstS)])) H1 := by
    rw [hw']
    refine va_P.app (fun k x hk => hP1 k x (hat0 k x hk)) (fun k x hk => ?_)
    have h0 : k < 1 := (List.getElem?_eq_some_iff.mp hk).1
    rw [show k = 0 by omega] at hk
    cases hk
    exact hP1 _ _ hat2
  have hgi : ∀ i, i < w.length → ∃ x : Nat × va_E, (xw D ad w)[i]? = some x ∧ x.1 = ad i := fun i hi => by
    rw [xw_get, List.getElem?_eq_getElem hi]
    exact ⟨_, rfl, rfl⟩
  have hap' : xap A ad' (w ++ [(.inl (0, 19, firstS) : xCell)]).length := by
    rw [show (w ++ [(.inl (0, 19, firstS) : xCell)]).length = w.length + 1 by simp]
    have key : ∀ i, i < w.length → ¬ ad i = q := fun i hi g => by
      obtain ⟨x, g1, g2⟩ := hgi i hi
      have := hD1.1 i (w.length + 1) _ _ (hat0 i x g1) hat2 (g2.trans g)
      omega
    refine ⟨fun i j hi hj hij => ?_, fun i hi => ?_⟩
    · by_cases ci : i < w.length
      · by_cases cj : j < w.length
        · rw [hext i ci, hext j cj] at hij
          exact hap.1 i j ci cj hij
        · rw [show j = w.length by omega, hext i ci, hq] at hij
          exact absurd hij (key i ci)
      · by_cases cj : j < w.length
        · rw [show i = w.length by omega, hext j cj, hq] at hij
          exact absurd hij.symm (key j cj)
        · omega
    · by_cases ci : i < w.length
      · rw [hext i ci]; exact hap.2 i ci
      · rw [show i = w.length by omega, hq]; exact hAq
  have hres := kk ad' H1 locs ((hext 0 hw0).trans h0) hP2 hap' hS2 hL hn ls hl'
  rw [List.map_cons, st_ext hext hsr] at hres
  have e1 : xv ad' (.ref w.length) = .ref q := congrArg Value.ref hq
  rw [e1] at hres
  exact hres
theorem gi_getf (F : Fx E own cc maxL d) {ix ci slot k : Nat} {v : Value} {fs : List Value} (hg : w[k]? = some (.inr (.inl (ci, fs)))) (hv : fs[slot]? = some v) (hf : fldOk own ix ci slot = true) (hd : decode cc pc = .ok (.getfield ix, 3)) (kk : Gi E n (pc + 3) L (v :: st) w) : Gi E n pc L (.ref k :: st) w := by
  obtain ⟨p, l, e, R, s, m, args, below, meth, c, Qc, Q, cs, A, nL, D, ad0⟩ := E
  obtain ⟨C, T, N, hc, hs, hw⟩ := fldOk_spec hf
  obtain ⟨c1, c2, c3⟩ := xcls hc
  intro ad H locs h0 hP hap hS hL hn ls hl
  exact va_get (D := (_, _)) (C := C) (T := T) (N := N) (ci := ci) (fs := fs.map (xv _)) F.1 F.2.1 F.2.2.2.2.2.1 c1 F.2.2.2.2.1 F.2.2.2.2.2.2.2.1.1 hP k (by rw [xw_get, hg]; rfl) hc slot hs (F.2.2.2.2.2.1 _ hw) (fun _ h9 => h9) (by rw [List.getElem?_map, hv]; rfl) hd (kk ad H locs h0 hP hap hS hL hn ls hl)
theorem gi_aast (F : Fx E own cc maxL d) {i : Int32} {v N j : Nat} {f : Nat → Option Nat} {fs : List Value} {u t : xW} {q : Nat} (hw : w = u ++ (.inr (.inr (N, f)) :: t)) (hq : u.length = q) (hv : w[v]? = some (.inr (.inl (4, fs)))) (hi : i.toNatClampNeg = j) (hin : vp_in i N) (hd : decode cc pc = .ok (.aastore, 1)) (kk : Gi E n (pc + 1) L st (u ++ (.inr (.inr (N, va_up f j (some v))) :: t))) : Gi E n pc L (.ref v :: .int i :: .ref q :: st) w := by
  obtain ⟨p, l, e, R, s, m, args, below, meth, c, Qc, Q, cs, A, nL, D, ad0⟩ := E
  subst hi
  intro ad H locs h0 hP hap hS hL hn ls hl
  have hg : w[q]? = some (.inr (.inr (N, f))) := by
    rw [hw, List.getElem?_append_right (by omega), hq, Nat.sub_self]
    rfl
  have hw2 : w.set q (.inr (.inr (N, va_up f i.toNatClampNeg (some v)))) = u ++ (.inr (.inr (N, va_up f i.toNatClampNeg (some v))) :: t) := by
    rw [hw, List.set_append_right _ _ (by omega), hq, Nat.sub_self]
    rfl
  rw [← hw2] at kk
  refine va_astq (r := (RX4, TX4, 17)) F.1 F.2.1 F.2.2.2.2.2.2.2.1.1 hP (xap_D _ hap) hS q 3 v 4 (by rw [xw_get, hg]; rfl) (xty_get _ (t := 3) (by decide)) (by rw [xw_get, hv]; rfl) rfl hin hd (fun H1 locs1 hP1 hD1 hS1 => ?_)
  refine kk ad H1 locs1 h0 ?_ (xap_len hap (by simp)) hS1 hL hn ls hl
  rw [xw_set]
  simp only [xc, va_up_map]
  exact hP1
theorem gi_istore (F : Fx E own cc maxL d) {k : Fin 4} {i : Nat} {x : Int32} (hd : decode cc pc = .ok (.istore_n k, 1)) (hi : (k : Nat) = i) (hm : i < maxL) (kk : Gi E n (pc + 1) (xst1 L i (.int x)) st w) : Gi E n pc L (.int x :: st) w := by
  obtain ⟨p, l, e, R, s, m, args, below, meth, c, Qc, Q, cs, A, nL, D, ad0⟩ := E
  intro ad H locs h0 hP hap hS hL hn ls hl
  exact lv_istore_n F.1 F.2.1 hd hi hl (by rw [F.2.2.2.1]; exact hm) rfl (fun ls' hl' => kk ad H locs h0 hP hap hS (by rw [xst1_len]; exact hL) (xno_st1 hn _ (fun h => by cases h)) ls' (lvp_st1 (v := .int _) hn hl'))
theorem gi_iload (F : Fx E own cc maxL d) {k : Fin 4} {i : Nat} {x : Int32} (hd : decode cc pc = .ok (.iload_n k, 1)) (hi : (k : Nat) = i) (hx : L[i]? = some (some (.int x))) (kk : Gi E n (pc + 1) L (.int x :: st) w) : Gi E n pc L st w := by
  obtain ⟨p, l, e, R, s, m, args, below, meth, c, Qc, Q, cs, A, nL, D, ad0⟩ := E
  intro ad H locs h0 hP hap hS hL hn ls hl
  exact lv_iload_n F.1 F.2.1 hd hi (lvp_at hl hx) (kk ad H locs h0 hP hap hS hL hn ls hl)
theorem gi_iinc (F : Fx E own cc maxL d) {i : Nat} {k : Int} {v x y : Int32} (hd : decode cc pc = .ok (.iinc i k, 3)) (hv : Int32.ofInt k = v) (hm : i < maxL) (hx : L[i]? = some (some (.int x))) (hy : x + v = y) (kk : Gi E n (pc + 3) (xst1 L i (.int y)) st w) : Gi E n pc L st w := by
  obtain ⟨p, l, e, R, s, m, args, below, meth, c, Qc, Q, cs, A, nL, D, ad0⟩ := E
  subst hy
  intro ad H locs h0 hP hap hS hL hn ls hl
  obtain ⟨k, hk2⟩ := List.getElem?_of_mem ((lvp_mem (ad := ad) L 0 i _).mpr ⟨i, .int x, by omega, hx, rfl⟩)
  exact lv_iinc F.1 F.2.1 hd hl hk2 (by rw [hv]) (by rw [F.2.2.2.1]; exact hm) rfl (fun ls' hl' => kk ad H locs h0 hP hap hS (by rw [xst1_len]; exact hL) (xno_st1 hn _ (fun h => by cases h)) ls' (lvp_st1 (v := .int _) hn hl'))
theorem gi_goto (F : Fx E own cc maxL d) {off : Int} {tgt : Nat} (hd : decode cc pc = .ok (.goto off, 3)) (ht : (pc : Int) + off = (tgt : Int)) (kk : Gi E n tgt L st w) : Gi E n pc L st w := by
  obtain ⟨p, l, e, R, s, m, args, below, meth, c, Qc, Q, cs, A, nL, D, ad0⟩ := E
  intro ad H locs h0 hP hap hS hL hn ls hl
  exact lv_goto F.1 F.2.1 hd ht (kk ad H locs h0 hP hap hS hL hn ls hl)
theorem gi_icmp_ge (F : Fx E own cc maxL d) {off : Int} {tgt : Nat} {x y : Int32} (hd : decode cc pc = .ok (.if_icmp .ge off, 3)) (ht : (pc : Int) + off = (tgt : Int)) (k1 : ¬ x < y → Gi E n tgt L st w) (k2 : x < y → Gi E n (pc + 3) L st w) : Gi E n pc L (.int y :: .int x :: st) w := by
  obtain ⟨p, l, e, R, s, m, args, below, meth, c, Qc, Q, cs, A, nL, D, ad0⟩ := E
  intro ad H locs h0 hP hap hS hL hn ls hl
  exact lv_icmp_ge F.1 F.2.1 hd ht (fun q => k1 (Int32.not_lt.mpr q) ad H locs h0 hP hap hS hL hn ls hl) (fun q => k2 (Int32.not_le.mp q) ad H locs h0 hP hap hS hL hn ls hl)
end
